/-! the landed object: locators, rows to see, warnings, style, out -/
theorem kq_19_xouts_0 : (Cond.fieldLink RX5 55 "IndexSort" "locators" "LIndexSort$Spans;") ∈ lw_tbl := by decide +kernel
theorem kq_19_xouts_1 : (Cond.methodLink RX5 138 yX3_add) ∈ lw_tbl := by decide +kernel
theorem kq_19_xouts_2 : (Cond.fieldLink RX5 51 "IndexSort" "gathered" "LIndexSort$Spans;") ∈ lw_tbl := by decide +kernel
theorem kq_19_xouts_3 : (Cond.methodLink RX5 142 yX3_size) ∈ lw_tbl := by decide +kernel
theorem kq_19_xouts_4 : (Cond.methodLink RX5 286 yX5_addLocators) ∈ lw_tbl := by decide +kernel
theorem kq_19_xouts_5 : (Cond.instanceMethod yX5_addLocators) ∈ lw_tbl := by decide +kernel
theorem kq_19_xouts_6 : (Cond.selects RX5 yX5_addLocators yX5_addLocators) ∈ lw_tbl := by decide +kernel
theorem kq_19_xouts_7 : (Cond.code yX5_addLocators cX5_addLocators 4 none) ∈ lw_tbl := by decide +kernel
theorem kq_19_xouts_8 : (Cond.methodLink RX5 184 yX3_from) ∈ lw_tbl := by decide +kernel
theorem kq_19_xouts_9 : (Cond.methodLink RX5 187 yX3_to) ∈ lw_tbl := by decide +kernel
theorem kq_19_xouts_10 : (Cond.methodLink RX5 283 yX3_isTold) ∈ lw_tbl := by decide +kernel
theorem kq_19_xouts_11 : (Cond.methodLink RX5 277 Lib.Math.max.name) ∈ lw_tbl := by decide +kernel
theorem kq_19_xouts_12 : (Cond.static Lib.Math.max.name) ∈ lw_tbl := by decide +kernel
theorem kq_19_xouts_13 : (Cond.code Lib.Math.max.name Lib.Math.max.code 2 (some .int)) ∈ lw_tbl := by decide +kernel
theorem kq_19_xouts_14 : (Cond.methodLink RX5 269 yX3_clear) ∈ lw_tbl := by decide +kernel
theorem kq_19_xouts_15 : (Cond.instanceMethod yX3_clear) ∈ lw_tbl := by decide +kernel
theorem kq_19_xouts_16 : (Cond.selects RX3 yX3_clear yX3_clear) ∈ lw_tbl := by decide +kernel
theorem kq_19_xouts_17 : (Cond.code yX3_clear cX3_clear 1 none) ∈ lw_tbl := by decide +kernel
theorem kq_19_xouts_18 : (Cond.methodLink RX5 274 yX5_joinGathered) ∈ lw_tbl := by decide +kernel
theorem kq_19_xouts_19 : (Cond.instanceMethod yX5_joinGathered) ∈ lw_tbl := by decide +kernel
theorem kq_19_xouts_20 : (Cond.selects RX5 yX5_joinGathered yX5_joinGathered) ∈ lw_tbl := by decide +kernel
theorem kq_19_xouts_21 : (Cond.code yX5_joinGathered cX5_joinGathered 5 none) ∈ lw_tbl := by decide +kernel
theorem kq_19_xouts_22 : (Cond.fieldLinkNest RX5 133 "IndexSort$Entry" "pages" "LIndexSort$Spans;" "IndexSort") ∈ lw_tbl := by decide +kernel
theorem kq_19_xouts_23 : (Cond.methodLink RX5 270 yX3_addAllInOrder) ∈ lw_tbl := by decide +kernel
theorem kq_19_xouts_24 : (Cond.instanceMethod yX3_addAllInOrder) ∈ lw_tbl := by decide +kernel
theorem kq_19_xouts_25 : (Cond.selects RX3 yX3_addAllInOrder yX3_addAllInOrder) ∈ lw_tbl := by decide +kernel
theorem kq_19_xouts_26 : (Cond.code yX3_addAllInOrder cX3_addAllInOrder 3 none) ∈ lw_tbl := by decide +kernel
theorem kq_19_xouts_27 : (Cond.fieldLink RX5 61 "IndexSort" "seen" "LIndexSort$Ints;") ∈ lw_tbl := by decide +kernel
theorem kq_19_xouts_28 : (Cond.methodLink RX5 155 yX1_has) ∈ lw_tbl := by decide +kernel
theorem kq_19_xouts_29 : (Cond.instanceMethod yX1_has) ∈ lw_tbl := by decide +kernel
theorem kq_19_xouts_30 : (Cond.selects RX1 yX1_has yX1_has) ∈ lw_tbl := by decide +kernel
theorem kq_19_xouts_31 : (Cond.code yX1_has cX1_has 3 (some .boolean)) ∈ lw_tbl := by decide +kernel
theorem kq_19_xouts_32 : (Cond.fieldLinkNest RX5 152 "IndexSort$Entry" "sees" "LIndexSort$Ints;" "IndexSort") ∈ lw_tbl := by decide +kernel
theorem kq_19_xouts_33 : (Cond.methodLink RX5 289 yX5_addSeenOf) ∈ lw_tbl := by decide +kernel
theorem kq_19_xouts_34 : (Cond.instanceMethod yX5_addSeenOf) ∈ lw_tbl := by decide +kernel
theorem kq_19_xouts_35 : (Cond.selects RX5 yX5_addSeenOf yX5_addSeenOf) ∈ lw_tbl := by decide +kernel
theorem kq_19_xouts_36 : (Cond.code yX5_addSeenOf cX5_addSeenOf 4 none) ∈ lw_tbl := by decide +kernel
theorem kq_19_xouts_37 : (Cond.fieldLinkNest RX5 296 "IndexSort$Entry" "pagesOfRow" "I" "IndexSort") ∈ lw_tbl := by decide +kernel
theorem kq_19_xouts_38 : (Cond.fieldLinkNest RX5 299 "IndexSort$Entry" "seesOfRow" "I" "IndexSort") ∈ lw_tbl := by decide +kernel
theorem kq_19_xouts_39 : (Cond.fieldLinkNest RX5 302 "IndexSort$Entry" "underRow" "I" "IndexSort") ∈ lw_tbl := by decide +kernel
theorem kq_19_xouts_40 : (Cond.methodLink RX5 293 yX0_clearCounts) ∈ lw_tbl := by decide +kernel
theorem kq_19_xouts_41 : (Cond.instanceMethod yX0_clearCounts) ∈ lw_tbl := by decide +kernel
theorem kq_19_xouts_42 : (Cond.selects RX0 yX0_clearCounts yX0_clearCounts) ∈ lw_tbl := by decide +kernel
theorem kq_19_xouts_43 : (Cond.code yX0_clearCounts cX0_clearCounts 1 none) ∈ lw_tbl := by decide +kernel
theorem kq_19_xouts_44 : (Cond.fieldLinkNest RX5 143 "IndexSort$Entry" "openRange" "I" "IndexSort") ∈ lw_tbl := by decide +kernel
theorem kq_19_xouts_45 : (Cond.methodLink RX5 308 yX0_isEmptyRow) ∈ lw_tbl := by decide +kernel
theorem kq_19_xouts_46 : (Cond.instanceMethod yX0_isEmptyRow) ∈ lw_tbl := by decide +kernel
theorem kq_19_xouts_47 : (Cond.selects RX0 yX0_isEmptyRow yX0_isEmptyRow) ∈ lw_tbl := by decide +kernel
theorem kq_19_xouts_48 : (Cond.code yX0_isEmptyRow cX0_isEmptyRow 1 (some .boolean)) ∈ lw_tbl := by decide +kernel
theorem kq_19_xouts_49 : (Cond.fieldLink RX5 67 "IndexSort" "warnings" "LIndexSort$Warnings;") ∈ lw_tbl := by decide +kernel
theorem kq_19_xouts_50 : (Cond.methodLink RX5 305 yX4_tell) ∈ lw_tbl := by decide +kernel
theorem kq_19_xouts_51 : (Cond.instanceMethod yX4_tell) ∈ lw_tbl := by decide +kernel
theorem kq_19_xouts_52 : (Cond.selects RX4 yX4_tell yX4_tell) ∈ lw_tbl := by decide +kernel
theorem kq_19_xouts_53 : (Cond.initialized RX4) ∈ lw_tbl := by decide +kernel
theorem kq_19_xouts_54 : (Cond.code yX4_tell cX4_tell 4 none) ∈ lw_tbl := by decide +kernel
theorem kq_19_xouts_55 : (Cond.constant RX5 137 100000) ∈ lw_tbl := by decide +kernel
theorem kq_19_xouts_56 : (Cond.fieldLink RX5 71 "IndexSort" "style" "LIndexSort$Ints;") ∈ lw_tbl := by decide +kernel
theorem kq_19_xouts_57 : (Cond.methodLink RX5 311 yX5_isMark) ∈ lw_tbl := by decide +kernel
theorem kq_19_xouts_58 : (Cond.static yX5_isMark) ∈ lw_tbl := by decide +kernel
theorem kq_19_xouts_59 : (Cond.code yX5_isMark cX5_isMark 1 (some .boolean)) ∈ lw_tbl := by decide +kernel
theorem kq_19_xouts_60 : (Cond.fieldLink RX5 81 "IndexSort" "draft" "LIndexSort$Paper;") ∈ lw_tbl := by decide +kernel
theorem kq_19_xouts_61 : (Cond.methodLink RX5 333 yX2_putPage) ∈ lw_tbl := by decide +kernel
theorem kq_19_xouts_62 : (Cond.instanceMethod yX2_putPage) ∈ lw_tbl := by decide +kernel
theorem kq_19_xouts_63 : (Cond.selects RX2 yX2_putPage yX2_putPage) ∈ lw_tbl := by decide +kernel
theorem kq_19_xouts_64 : (Cond.code yX2_putPage cX2_putPage 3 none) ∈ lw_tbl := by decide +kernel
theorem kq_19_xouts_65 : (Cond.methodLink RX5 318 yX2_put) ∈ lw_tbl := by decide +kernel
theorem kq_19_xouts_66 : (Cond.methodLink RX5 330 yX2_putBetween) ∈ lw_tbl := by decide +kernel
theorem kq_19_xouts_67 : (Cond.instanceMethod yX2_putBetween) ∈ lw_tbl := by decide +kernel
theorem kq_19_xouts_68 : (Cond.selects RX2 yX2_putBetween yX2_putBetween) ∈ lw_tbl := by decide +kernel
theorem kq_19_xouts_69 : (Cond.code yX2_putBetween cX2_putBetween 2 none) ∈ lw_tbl := by decide +kernel
theorem kq_19_xouts_70 : (Cond.fieldLinkNest RX5 111 "IndexSort$Entry" "signs" "LIndexSort$Ints;" "IndexSort") ∈ lw_tbl := by decide +kernel
theorem kq_19_xouts_71 : (Cond.methodLink RX5 321 yX2_putAll) ∈ lw_tbl := by decide +kernel
theorem kq_19_xouts_72 : (Cond.instanceMethod yX2_putAll) ∈ lw_tbl := by decide +kernel
theorem kq_19_xouts_73 : (Cond.selects RX2 yX2_putAll yX2_putAll) ∈ lw_tbl := by decide +kernel
theorem kq_19_xouts_74 : (Cond.code yX2_putAll cX2_putAll 3 none) ∈ lw_tbl := by decide +kernel
theorem kq_19_xouts_75 : (Cond.methodLink RX5 327 yX5_writeSeen) ∈ lw_tbl := by decide +kernel
theorem kq_19_xouts_76 : (Cond.instanceMethod yX5_writeSeen) ∈ lw_tbl := by decide +kernel
theorem kq_19_xouts_77 : (Cond.selects RX5 yX5_writeSeen yX5_writeSeen) ∈ lw_tbl := by decide +kernel
theorem kq_19_xouts_78 : (Cond.code yX5_writeSeen cX5_writeSeen 2 none) ∈ lw_tbl := by decide +kernel
theorem kq_19_xouts_79 : (Cond.methodLink RX5 324 yX5_writeLocators) ∈ lw_tbl := by decide +kernel
theorem kq_19_xouts_80 : (Cond.instanceMethod yX5_writeLocators) ∈ lw_tbl := by decide +kernel
theorem kq_19_xouts_81 : (Cond.selects RX5 yX5_writeLocators yX5_writeLocators) ∈ lw_tbl := by decide +kernel
theorem kq_19_xouts_82 : (Cond.code yX5_writeLocators cX5_writeLocators 2 none) ∈ lw_tbl := by decide +kernel
theorem kq_19_xouts_83 : (Cond.methodLink RX5 314 yX5_writeMark) ∈ lw_tbl := by decide +kernel
theorem kq_19_xouts_84 : (Cond.instanceMethod yX5_writeMark) ∈ lw_tbl := by decide +kernel
theorem kq_19_xouts_85 : (Cond.selects RX5 yX5_writeMark yX5_writeMark) ∈ lw_tbl := by decide +kernel
theorem kq_19_xouts_86 : (Cond.code yX5_writeMark cX5_writeMark 5 none) ∈ lw_tbl := by decide +kernel
set_option maxHeartbeats 4000000 in
set_option maxRecDepth 100000 in
theorem y_addLocators (l : Launch) (dC : Nat → ClassId) (dI : Nat → Nat → Nat) (cI cB cE : ClassId) (o r n : Nat → Nat) (z : Nat → Int) (F : Nat → Int → Int) (G : Nat → Option Nat) (N : Nat) (Eo Er En : Nat → Nat → Nat) (Ez : Nat → Nat → Int) (EF : Nat → Nat → Int → Int) (p0 : Int) (p1 : Int) (p2 : Int) (sz : Nat) (hok : xOk n z F) (hxG : xG N (z 12) G Eo) (hPE : eA N En Ez EF) (hp01 : -2147483648 ≤ p0) (hp02 : p0 < 2147483648) (hp11 : -2147483648 ≤ p1) (hp12 : p1 < 2147483648) (hp2 : p2 = 0 ∨ p2 = 1) : Met l yX5_addLocators [.code yX5_addLocators cX5_addLocators 4 none] ({ frames := 4, cells := 150, slots := 60000, locals := 126 }) (va_Pc [.ref (o 15), .int (iz p0), .int (iz p1), .int (iz p2)] (kx_Pre dC dI (xU cI cB cE o r n z F G (Eo 0 0) ++ eP cI N Eo Er En Ez EF) (xT cI cB cE) sz)) (xQ (fun _ : (Nat → Nat) × (Nat → Nat) × (Nat → Int) × (Nat → Int → Int) × (Nat → Nat → Nat) × (Nat → Nat → Nat) × (Nat → Nat → Int) × (Nat → Nat → Int → Int) => none) (fun (u : (Nat → Nat) × (Nat → Nat) × (Nat → Int) × (Nat → Int → Int) × (Nat → Nat → Nat) × (Nat → Nat → Nat) × (Nat → Nat → Int) × (Nat → Nat → Int → Int)) (dn dm : Nat) => match u with | (r', n', z', F', Er', En', Ez', EF') => xR [7, 8, 9] [7, 8, 9] [] [] N z F En Ez EF n' z' F' En' Ez' EF' ∧ (dn + xg n' ≤ xg n + 0 ∧ dm + xp n' ≤ xp n + 0) ∧ (True)) (fun u t => kx_At dC dI (va_A (xU cI cB cE o r n z F G (Eo 0 0) ++ eP cI N Eo Er En Ez EF) sz) ((fun u : (Nat → Nat) × (Nat → Nat) × (Nat → Int) × (Nat → Int → Int) × (Nat → Nat → Nat) × (Nat → Nat → Nat) × (Nat → Nat → Int) × (Nat → Nat → Int → Int) => match u with | (r', n', z', F', Er', En', Ez', EF') => (xU cI cB cE o r' n' z' F' G (Eo 0 0) ++ eP cI N Eo Er' En' Ez' EF')) u) (xT cI cB cE) t) (va_A (xU cI cB cE o r n z F G (Eo 0 0) ++ eP cI N Eo Er En Ez EF) sz)) 150 60000 (va_A (xU cI cB cE o r n z F G (Eo 0 0) ++ eP cI N Eo Er En Ez EF) sz) := by
  refine Met.ofW (cc := cX5_addLocators) (maxL := 4) (ret := none) (by decide) rfl ?_
  intro p e s m args below meth c s₁ B hml hv
  obtain ⟨rfl, hsz, hP, hK, hD0, hG, hZ⟩ := hv
  have hx := B.exec
  have hb := B.bytes
  have hr := B.returns
  have hts := kx_hts (a := ([.ref (o 15), .int (iz p0), .int (iz p1), .int (iz p2)] : List Value).toArray) hG
  have hown : s.vm.findClass RX5 = some m.cls := findClass_of_methodNamed B.named
  have hlocks := B.notSynchronized
  subst hsz
  have hD := hD0.self (sz := s.heap.size)
  generalize hAe : va_A (xU cI cB cE o r n z F G (Eo 0 0) ++ eP cI N Eo Er En Ez EF) s.heap.size = A at hD hZ ⊢
  have hA : ∀ q : Nat, s.heap.size ≤ q → A q := fun q h => by rw [← hAe]; exact Or.inr h
  have hS : va_S A s.heap s.heap [] := va_S.rf
  have hl := lv_entry ([.ref (o 15), .int (iz p0), .int (iz p1), .int (iz p2)]) (n := 4) (Nat.le_of_ble_eq_true rfl)
  rw [lg_entry_eq]
  generalize (lg_sl ([.ref (o 15), .int (iz p0), .int (iz p1), .int (iz p2)]) ++ List.replicate (4 - (lg_sl ([.ref (o 15), .int (iz p0), .int (iz p1), .int (iz p2)])).length) Slot.unset).toArray = ls at hl ⊢
  obtain ⟨hN1, hN2, hN3, hN4⟩ := hxG
  have hef : eFr [] [] En Ez EF En Ez EF := eFr.rf
  have hfr : xFr [7, 8, 9] [7, 8, 9] z F z F := xFr.rf
  have hxgl := xg_le n
  have hxpl := xp_le n
  have hl : lv_has ls 4 [(0, .ref (o 15)), (1, .int (iz p0)), (2, .int (iz p1)), (3, .int (iz p2))] := hl
  refine lv_iload_n hx hb dX5_addLocators_0 rfl (lv_at hl 1 rfl) ?_
  refine ki_if_ne (tgt := 5) hx hb dX5_addLocators_1 (by decide) (by omega) (by omega) (fun c_1 => ?_) (fun c_1 => ?_)
  · skip
    refine lv_iload_n hx hb dX5_addLocators_5 rfl (lv_at hl 3 rfl) ?_
    refine ki_if_ne (tgt := 16) hx hb dX5_addLocators_6 (by decide) (by omega) (by omega) (fun c_2 => ?_) (fun c_2 => ?_)
    · skip
      refine lv_aload_n hx hb dX5_addLocators_16 rfl (lv_at hl 0 rfl) ?_
      refine va_get (D := (dC, dI)) (ci := 5) (v := .ref (o 14)) (C := RX5) (T := TX5) (N := 16) hx hb hts kt_X5 hown hK hP 0 rfl rfl 9 (by decide) (kx_word hG kq_19_xouts_0 rfl) (fun _ h9 => h9) rfl dX5_addLocators_17 ?_
      refine lv_iload_n hx hb dX5_addLocators_20 rfl (lv_at hl 1 rfl) ?_
      refine lv_iload_n hx hb dX5_addLocators_21 rfl (lv_at hl 2 rfl) ?_
      refine lv_iload_n hx hb dX5_addLocators_22 rfl (lv_at hl 3 rfl) ?_
      have hxi_3 : 0 ≤ z 7 ∧ z 7 ≤ ((n 7 : Nat) : Int) ∧ ((n 7 : Nat) : Int) ≤ 1600 := hok.1 7 (by decide)
      have hxi_4 : 0 ≤ z 8 ∧ z 8 ≤ ((n 8 : Nat) : Int) ∧ ((n 8 : Nat) : Int) ≤ 1600 := hok.1 8 (by decide)
      have hxi_5 : 0 ≤ z 9 ∧ z 9 ≤ ((n 9 : Nat) : Int) ∧ ((n 9 : Nat) : Int) ≤ 1600 := hok.1 9 (by decide)
      have hPc := hP.sub (ws' := (sU cI 1600 (o 14) (o 7) (o 8) (o 9) (r 7) (r 8) (r 9) (n 7) (n 8) (n 9) (z 7) (z 8) (z 9) (F 7) (F 8) (F 9))) [17, 18, 19, 20, 21, 22, 23] rfl
      have hDc := hD.sub (ws' := (sU cI 1600 (o 14) (o 7) (o 8) (o 9) (r 7) (r 8) (r 9) (n 7) (n 8) (n 9) (z 7) (z 8) (z 9) (F 7) (F 8) (F 9))) [17, 18, 19, 20, 21, 22, 23] (by decide) rfl
      have hFc := va_free (wc := (sU cI 1600 (o 14) (o 7) (o 8) (o 9) (r 7) (r 8) (r 9) (n 7) (n 8) (n 9) (z 7) (z 8) (z 9) (F 7) (F 8) (F 9))) hD hS hA [17, 18, 19, 20, 21, 22, 23] rfl
      refine xk_call (va_runV (As := [.int (iz p0), .int (iz p1), .int (iz p2)]) (rest := []) ⟨hx, hb, hml, hown, hts⟩ (x_sadd l dC dI cI cB cE 1600 (o 14) (o 7) (o 8) (o 9) (r 7) (r 8) (r 9) (n 7) (n 8) (n 9) (z 7) (z 8) (z 9) (F 7) (F 8) (F 9) p0 p1 p2 s.heap.size (by omega) (hok.2.2.1 7) (by omega) (hok.2.2.1 8) (by omega) (hok.2.2.1 9) (by omega) (by omega) (by omega) (by omega) (by omega)) (cwV 3 hts (kx_gV kq_19_xouts_1 kq_15_xspan_72 kq_15_xspan_73 kq_15_xspan_53 kq_15_xspan_74 rfl) rfl rfl rfl (by decide +kernel) ⟨Nat.le_of_ble_eq_true rfl, Nat.le_of_ble_eq_true rfl⟩) ⟨kx_blind, va_recv hK hPc (ci := 3) (q0 := 0) rfl rfl, kx_give (ws := []) (tys := []) hPc hDc hK hG hZ hS hFc⟩ rfl rfl hl.1 rfl (lv_room (Nat.le_of_ble_eq_true rfl)) dX5_addLocators_23 ⟨show 0 + 3 ≤ 150 from (by omega), show 0 + 4800 ≤ 60000 from (by omega)⟩) hS (fun q _ h => hFc q h) hFc (fun u dn_7 dm_8 t H locs ht hvm hq_6 hB hk1 hS => ?_)
      obtain ⟨r1_9, n1_10, z1_11, F1_12, r2_13, n2_14, z2_15, F2_16, r3_17, n3_18, z3_19, F3_20⟩ := u
      obtain ⟨hP1, hK1, hD1⟩ := hB
      rw [ht] at hP1
      obtain ⟨hP, hD⟩ := xj_pool (wr := [(o 15, .inr (5, [.ref (o 16), .ref (Eo 0 0), .int (iz (z 12)), .int (iz (z 13)), .int (iz (z 14)), .ref (o 0), .ref (o 1), .int (iz (z 15)), .ref (o 13), .ref (o 14), .int (iz (z 16)), .ref (o 2), .ref (o 12), .ref (o 3), .ref (o 10), .ref (o 11)])), (o 16, .inl (cE, 80, .inr (.inr (.inr (.inr G))))), (o 0, .inr (1, [.int (iz 80), .ref (r 0), .int (iz (z 0))])), (r 0, .inl (cI, n 0, .inl (iA (F 0)))), (o 1, .inr (1, [.int (iz 80), .ref (r 1), .int (iz (z 1))])), (r 1, .inl (cI, n 1, .inl (iA (F 1)))), (o 2, .inr (1, [.int (iz 80), .ref (r 2), .int (iz (z 2))])), (r 2, .inl (cI, n 2, .inl (iA (F 2)))), (o 3, .inr (1, [.int (iz 80), .ref (r 3), .int (iz (z 3))])), (r 3, .inl (cI, n 3, .inl (iA (F 3)))), (o 13, .inr (3, [.ref (o 4), .ref (o 5), .ref (o 6)])), (o 4, .inr (1, [.int (iz 1600), .ref (r 4), .int (iz (z 4))])), (r 4, .inl (cI, n 4, .inl (iA (F 4)))), (o 5, .inr (1, [.int (iz 1600), .ref (r 5), .int (iz (z 5))])), (r 5, .inl (cI, n 5, .inl (iA (F 5)))), (o 6, .inr (1, [.int (iz 1600), .ref (r 6), .int (iz (z 6))])), (r 6, .inl (cI, n 6, .inl (iA (F 6)))), (o 12, .inr (4, [.int (iz (z 17)), .int (iz (z 18)), .int (iz (z 19)), .int (iz (z 20)), .int (iz (z 21))])), (o 10, .inr (2, [.ref (r 10), .int (iz (z 10)), .int (iz (z 22))])), (r 10, .inl (cB, n 10, .inl (iA (F 10)))), (o 11, .inr (2, [.ref (r 11), .int (iz (z 11)), .int (iz (z 23))])), (r 11, .inl (cB, n 11, .inl (iA (F 11))))]) (w1 := (sU cI 1600 (o 14) (o 7) (o 8) (o 9) r1_9 r2_13 r3_17 n1_10 n2_14 n3_18 z1_11 z2_15 z3_19 F1_12 F2_16 F3_20)) (ws' := (xU cI cB cE o (va_up (va_up (va_up r 7 r1_9) 8 r2_13) 9 r3_17) (va_up (va_up (va_up n 7 n1_10) 8 n2_14) 9 n3_18) (va_up (va_up (va_up z 7 z1_11) 8 z2_15) 9 z3_19) (va_up (va_up (va_up F 7 F1_12) 8 F2_16) 9 F3_20) G (Eo 0 0))) hP hD [17, 18, 19, 20, 21, 22, 23] [0, 1, 2, 3, 4, 5, 6, 7, 8, 9, 10, 11, 12, 13, 14, 15, 16, 24, 25, 26, 27, 28] [0, 1, 2, 3, 4, 5, 6, 7, 8, 9, 10, 11, 12, 13, 14, 15, 16, 22, 23, 24, 25, 26, 27, 28, 17, 18, 19, 20, 21] rfl rfl (by decide) (by decide) hk1 hFc hP1 hD1 rfl (by decide)
      refine W.eq (g2 := F0 m 26 ls []) rfl ?_
      try dsimp only at hq_6
      obtain ⟨ha21, hb121, hb21, hb221, hc21, hb321, hd21, hA21, hAA21⟩ := hq_6
      have hax21 := hA21.1
      have hpg121 := psg_le 1600 (n 7)
      have hpj121 := psj_le (L := 1600) (by omega) (n 7)
      have hpg221 := psg_le 1600 (n 8)
      have hpj221 := psj_le (L := 1600) (by omega) (n 8)
      have hpg321 := psg_le 1600 (n 9)
      have hpj321 := psj_le (L := 1600) (by omega) (n 9)
      have hok22 : xOk (va_up (va_up (va_up n 7 n1_10) 8 n2_14) 9 n3_18) (va_up (va_up (va_up z 7 z1_11) 8 z2_15) 9 z3_19) (va_up (va_up (va_up F 7 F1_12) 8 F2_16) 9 F3_20) := (((hok.i 7 (by decide) (show 0 ≤ z1_11 ∧ z1_11 ≤ ((n1_10 : Nat) : Int) ∧ ((n1_10 : Nat) : Int) ≤ 1600 by omega) hb121).i 8 (by decide) (show 0 ≤ z2_15 ∧ z2_15 ≤ ((n2_14 : Nat) : Int) ∧ ((n2_14 : Nat) : Int) ≤ 1600 by omega) hb221).i 9 (by decide) (show 0 ≤ z3_19 ∧ z3_19 ≤ ((n3_18 : Nat) : Int) ∧ ((n3_18 : Nat) : Int) ≤ 1600 by omega) hb321)
      have hfr22 : xFr [7, 8, 9] [7, 8, 9] z F (va_up (va_up (va_up z 7 z1_11) 8 z2_15) 9 z3_19) (va_up (va_up (va_up F 7 F1_12) 8 F2_16) 9 F3_20) := ((((((hfr.uz 7 (by decide) _).uz 8 (by decide) _).uz 9 (by decide) _).uf 7 (by decide) _).uf 8 (by decide) _).uf 9 (by decide) _)
      have hcg22 : (dn_7) + xg (va_up (va_up (va_up n 7 n1_10) 8 n2_14) 9 n3_18) ≤ xg n := by unfold xg; simp (decide := true) only [va_ev, ↓reduceIte]; omega
      have hcp22 : (dm_8) + xp (va_up (va_up (va_up n 7 n1_10) 8 n2_14) 9 n3_18) ≤ xp n := by unfold xp; simp (decide := true) only [va_ev, ↓reduceIte]; omega
      exact xk_vret (ov := (fun _ : (Nat → Nat) × (Nat → Nat) × (Nat → Int) × (Nat → Int → Int) × (Nat → Nat → Nat) × (Nat → Nat → Nat) × (Nat → Nat → Int) × (Nat → Nat → Int → Int) => none)) (post := (fun (u : (Nat → Nat) × (Nat → Nat) × (Nat → Int) × (Nat → Int → Int) × (Nat → Nat → Nat) × (Nat → Nat → Nat) × (Nat → Nat → Int) × (Nat → Nat → Int → Int)) (dn dm : Nat) => match u with | (r', n', z', F', Er', En', Ez', EF') => xR [7, 8, 9] [7, 8, 9] [] [] N z F En Ez EF n' z' F' En' Ez' EF' ∧ (dn + xg n' ≤ xg n + 0 ∧ dm + xp n' ≤ xp n + 0) ∧ (True))) (ws := (fun u : (Nat → Nat) × (Nat → Nat) × (Nat → Int) × (Nat → Int → Int) × (Nat → Nat → Nat) × (Nat → Nat → Nat) × (Nat → Nat → Int) × (Nat → Nat → Int → Int) => match u with | (r', n', z', F', Er', En', Ez', EF') => (xU cI cB cE o r' n' z' F' G (Eo 0 0) ++ eP cI N Eo Er' En' Ez' EF'))) (tys := xT cI cB cE) ((va_up (va_up (va_up r 7 r1_9) 8 r2_13) 9 r3_17), (va_up (va_up (va_up n 7 n1_10) 8 n2_14) 9 n3_18), (va_up (va_up (va_up z 7 z1_11) 8 z2_15) 9 z3_19), (va_up (va_up (va_up F 7 F1_12) 8 F2_16) 9 F3_20), Er, En, Ez, EF) hx hb hr hlocks rfl hP hD hK hS dX5_addLocators_26 (fun dn dm hdn hdm => ⟨⟨hok22, hfr22, hPE, hef⟩, ⟨by omega, by omega⟩, trivial⟩) (by omega) (by omega)
    · skip
      refine lv_iload_n hx hb dX5_addLocators_9 rfl (lv_at hl 2 rfl) ?_
      refine lv_iload_n hx hb dX5_addLocators_10 rfl (lv_at hl 1 rfl) ?_
      refine ki_isub hx hb dX5_addLocators_11 ?_
      refine ki_any (fun z_23 hz_23a hz_23b => ?_)
      refine lv_iconst (v := iz 2) hx hb dX5_addLocators_12 (by decide) ?_
      refine ki_icmp_lt (tgt := 27) hx hb dX5_addLocators_13 (by decide) (by omega) (by omega) (by omega) (by omega) (fun c_24 => ?_) (fun c_24 => ?_)
      · skip
        refine lv_aload_n hx hb dX5_addLocators_27 rfl (lv_at hl 0 rfl) ?_
        refine va_get (D := (dC, dI)) (ci := 5) (v := .ref (o 14)) (C := RX5) (T := TX5) (N := 16) hx hb hts kt_X5 hown hK hP 0 rfl rfl 9 (by decide) (kx_word hG kq_19_xouts_0 rfl) (fun _ h9 => h9) rfl dX5_addLocators_28 ?_
        refine lv_iload_n hx hb dX5_addLocators_31 rfl (lv_at hl 1 rfl) ?_
        refine lv_iload_n hx hb dX5_addLocators_32 rfl (lv_at hl 1 rfl) ?_
        refine lv_iconst (v := iz 0) hx hb dX5_addLocators_33 (by decide) ?_
        have hxi_25 : 0 ≤ z 7 ∧ z 7 ≤ ((n 7 : Nat) : Int) ∧ ((n 7 : Nat) : Int) ≤ 1600 := hok.1 7 (by decide)
        have hxi_26 : 0 ≤ z 8 ∧ z 8 ≤ ((n 8 : Nat) : Int) ∧ ((n 8 : Nat) : Int) ≤ 1600 := hok.1 8 (by decide)
        have hxi_27 : 0 ≤ z 9 ∧ z 9 ≤ ((n 9 : Nat) : Int) ∧ ((n 9 : Nat) : Int) ≤ 1600 := hok.1 9 (by decide)
        have hPc := hP.sub (ws' := (sU cI 1600 (o 14) (o 7) (o 8) (o 9) (r 7) (r 8) (r 9) (n 7) (n 8) (n 9) (z 7) (z 8) (z 9) (F 7) (F 8) (F 9))) [17, 18, 19, 20, 21, 22, 23] rfl
        have hDc := hD.sub (ws' := (sU cI 1600 (o 14) (o 7) (o 8) (o 9) (r 7) (r 8) (r 9) (n 7) (n 8) (n 9) (z 7) (z 8) (z 9) (F 7) (F 8) (F 9))) [17, 18, 19, 20, 21, 22, 23] (by decide) rfl
        have hFc := va_free (wc := (sU cI 1600 (o 14) (o 7) (o 8) (o 9) (r 7) (r 8) (r 9) (n 7) (n 8) (n 9) (z 7) (z 8) (z 9) (F 7) (F 8) (F 9))) hD hS hA [17, 18, 19, 20, 21, 22, 23] rfl
        refine xk_call (va_runV (As := [.int (iz p0), .int (iz p0), .int (iz 0)]) (rest := []) ⟨hx, hb, hml, hown, hts⟩ (x_sadd l dC dI cI cB cE 1600 (o 14) (o 7) (o 8) (o 9) (r 7) (r 8) (r 9) (n 7) (n 8) (n 9) (z 7) (z 8) (z 9) (F 7) (F 8) (F 9) p0 p0 0 s.heap.size (by omega) (hok.2.2.1 7) (by omega) (hok.2.2.1 8) (by omega) (hok.2.2.1 9) (by omega) (by omega) (by omega) (by omega) (by omega)) (cwV 3 hts (kx_gV kq_19_xouts_1 kq_15_xspan_72 kq_15_xspan_73 kq_15_xspan_53 kq_15_xspan_74 rfl) rfl rfl rfl (by decide +kernel) ⟨Nat.le_of_ble_eq_true rfl, Nat.le_of_ble_eq_true rfl⟩) ⟨kx_blind, va_recv hK hPc (ci := 3) (q0 := 0) rfl rfl, kx_give (ws := []) (tys := []) hPc hDc hK hG hZ hS hFc⟩ rfl rfl hl.1 rfl (lv_room (Nat.le_of_ble_eq_true rfl)) dX5_addLocators_34 ⟨show 0 + 3 ≤ 150 from (by omega), show 0 + 4800 ≤ 60000 from (by omega)⟩) hS (fun q _ h => hFc q h) hFc (fun u dn_29 dm_30 t H locs ht hvm hq_28 hB hk1 hS => ?_)
        obtain ⟨r1_31, n1_32, z1_33, F1_34, r2_35, n2_36, z2_37, F2_38, r3_39, n3_40, z3_41, F3_42⟩ := u
        obtain ⟨hP1, hK1, hD1⟩ := hB
        rw [ht] at hP1
        obtain ⟨hP, hD⟩ := xj_pool (wr := [(o 15, .inr (5, [.ref (o 16), .ref (Eo 0 0), .int (iz (z 12)), .int (iz (z 13)), .int (iz (z 14)), .ref (o 0), .ref (o 1), .int (iz (z 15)), .ref (o 13), .ref (o 14), .int (iz (z 16)), .ref (o 2), .ref (o 12), .ref (o 3), .ref (o 10), .ref (o 11)])), (o 16, .inl (cE, 80, .inr (.inr (.inr (.inr G))))), (o 0, .inr (1, [.int (iz 80), .ref (r 0), .int (iz (z 0))])), (r 0, .inl (cI, n 0, .inl (iA (F 0)))), (o 1, .inr (1, [.int (iz 80), .ref (r 1), .int (iz (z 1))])), (r 1, .inl (cI, n 1, .inl (iA (F 1)))), (o 2, .inr (1, [.int (iz 80), .ref (r 2), .int (iz (z 2))])), (r 2, .inl (cI, n 2, .inl (iA (F 2)))), (o 3, .inr (1, [.int (iz 80), .ref (r 3), .int (iz (z 3))])), (r 3, .inl (cI, n 3, .inl (iA (F 3)))), (o 13, .inr (3, [.ref (o 4), .ref (o 5), .ref (o 6)])), (o 4, .inr (1, [.int (iz 1600), .ref (r 4), .int (iz (z 4))])), (r 4, .inl (cI, n 4, .inl (iA (F 4)))), (o 5, .inr (1, [.int (iz 1600), .ref (r 5), .int (iz (z 5))])), (r 5, .inl (cI, n 5, .inl (iA (F 5)))), (o 6, .inr (1, [.int (iz 1600), .ref (r 6), .int (iz (z 6))])), (r 6, .inl (cI, n 6, .inl (iA (F 6)))), (o 12, .inr (4, [.int (iz (z 17)), .int (iz (z 18)), .int (iz (z 19)), .int (iz (z 20)), .int (iz (z 21))])), (o 10, .inr (2, [.ref (r 10), .int (iz (z 10)), .int (iz (z 22))])), (r 10, .inl (cB, n 10, .inl (iA (F 10)))), (o 11, .inr (2, [.ref (r 11), .int (iz (z 11)), .int (iz (z 23))])), (r 11, .inl (cB, n 11, .inl (iA (F 11))))]) (w1 := (sU cI 1600 (o 14) (o 7) (o 8) (o 9) r1_31 r2_35 r3_39 n1_32 n2_36 n3_40 z1_33 z2_37 z3_41 F1_34 F2_38 F3_42)) (ws' := (xU cI cB cE o (va_up (va_up (va_up r 7 r1_31) 8 r2_35) 9 r3_39) (va_up (va_up (va_up n 7 n1_32) 8 n2_36) 9 n3_40) (va_up (va_up (va_up z 7 z1_33) 8 z2_37) 9 z3_41) (va_up (va_up (va_up F 7 F1_34) 8 F2_38) 9 F3_42) G (Eo 0 0))) hP hD [17, 18, 19, 20, 21, 22, 23] [0, 1, 2, 3, 4, 5, 6, 7, 8, 9, 10, 11, 12, 13, 14, 15, 16, 24, 25, 26, 27, 28] [0, 1, 2, 3, 4, 5, 6, 7, 8, 9, 10, 11, 12, 13, 14, 15, 16, 22, 23, 24, 25, 26, 27, 28, 17, 18, 19, 20, 21] rfl rfl (by decide) (by decide) hk1 hFc hP1 hD1 rfl (by decide)
        refine W.eq (g2 := F0 m 37 ls []) rfl ?_
        try dsimp only at hq_28
        obtain ⟨ha43, hb143, hb43, hb243, hc43, hb343, hd43, hA43, hAA43⟩ := hq_28
        have hax43 := hA43.1
        have hpg143 := psg_le 1600 (n 7)
        have hpj143 := psj_le (L := 1600) (by omega) (n 7)
        have hpg243 := psg_le 1600 (n 8)
        have hpj243 := psj_le (L := 1600) (by omega) (n 8)
        have hpg343 := psg_le 1600 (n 9)
        have hpj343 := psj_le (L := 1600) (by omega) (n 9)
        refine lv_iload_n hx hb dX5_addLocators_37 rfl (lv_at hl 2 rfl) ?_
        refine lv_iload_n hx hb dX5_addLocators_38 rfl (lv_at hl 1 rfl) ?_
        refine ki_icmp_eq (tgt := 52) hx hb dX5_addLocators_39 (by decide) (by omega) (by omega) (by omega) (by omega) (fun c_44 => ?_) (fun c_44 => ?_)
        · skip
          have hok45 : xOk (va_up (va_up (va_up n 7 n1_32) 8 n2_36) 9 n3_40) (va_up (va_up (va_up z 7 z1_33) 8 z2_37) 9 z3_41) (va_up (va_up (va_up F 7 F1_34) 8 F2_38) 9 F3_42) := (((hok.i 7 (by decide) (show 0 ≤ z1_33 ∧ z1_33 ≤ ((n1_32 : Nat) : Int) ∧ ((n1_32 : Nat) : Int) ≤ 1600 by omega) hb143).i 8 (by decide) (show 0 ≤ z2_37 ∧ z2_37 ≤ ((n2_36 : Nat) : Int) ∧ ((n2_36 : Nat) : Int) ≤ 1600 by omega) hb243).i 9 (by decide) (show 0 ≤ z3_41 ∧ z3_41 ≤ ((n3_40 : Nat) : Int) ∧ ((n3_40 : Nat) : Int) ≤ 1600 by omega) hb343)
          have hfr45 : xFr [7, 8, 9] [7, 8, 9] z F (va_up (va_up (va_up z 7 z1_33) 8 z2_37) 9 z3_41) (va_up (va_up (va_up F 7 F1_34) 8 F2_38) 9 F3_42) := ((((((hfr.uz 7 (by decide) _).uz 8 (by decide) _).uz 9 (by decide) _).uf 7 (by decide) _).uf 8 (by decide) _).uf 9 (by decide) _)
          have hcg45 : (dn_29) + xg (va_up (va_up (va_up n 7 n1_32) 8 n2_36) 9 n3_40) ≤ xg n := by unfold xg; simp (decide := true) only [va_ev, ↓reduceIte]; omega
          have hcp45 : (dm_30) + xp (va_up (va_up (va_up n 7 n1_32) 8 n2_36) 9 n3_40) ≤ xp n := by unfold xp; simp (decide := true) only [va_ev, ↓reduceIte]; omega
          exact xk_vret (ov := (fun _ : (Nat → Nat) × (Nat → Nat) × (Nat → Int) × (Nat → Int → Int) × (Nat → Nat → Nat) × (Nat → Nat → Nat) × (Nat → Nat → Int) × (Nat → Nat → Int → Int) => none)) (post := (fun (u : (Nat → Nat) × (Nat → Nat) × (Nat → Int) × (Nat → Int → Int) × (Nat → Nat → Nat) × (Nat → Nat → Nat) × (Nat → Nat → Int) × (Nat → Nat → Int → Int)) (dn dm : Nat) => match u with | (r', n', z', F', Er', En', Ez', EF') => xR [7, 8, 9] [7, 8, 9] [] [] N z F En Ez EF n' z' F' En' Ez' EF' ∧ (dn + xg n' ≤ xg n + 0 ∧ dm + xp n' ≤ xp n + 0) ∧ (True))) (ws := (fun u : (Nat → Nat) × (Nat → Nat) × (Nat → Int) × (Nat → Int → Int) × (Nat → Nat → Nat) × (Nat → Nat → Nat) × (Nat → Nat → Int) × (Nat → Nat → Int → Int) => match u with | (r', n', z', F', Er', En', Ez', EF') => (xU cI cB cE o r' n' z' F' G (Eo 0 0) ++ eP cI N Eo Er' En' Ez' EF'))) (tys := xT cI cB cE) ((va_up (va_up (va_up r 7 r1_31) 8 r2_35) 9 r3_39), (va_up (va_up (va_up n 7 n1_32) 8 n2_36) 9 n3_40), (va_up (va_up (va_up z 7 z1_33) 8 z2_37) 9 z3_41), (va_up (va_up (va_up F 7 F1_34) 8 F2_38) 9 F3_42), Er, En, Ez, EF) hx hb hr hlocks rfl hP hD hK hS dX5_addLocators_52 (fun dn dm hdn hdm => ⟨⟨hok45, hfr45, hPE, hef⟩, ⟨by omega, by omega⟩, trivial⟩) (by omega) (by omega)
        · skip
          refine lv_aload_n hx hb dX5_addLocators_42 rfl (lv_at hl 0 rfl) ?_
          refine va_get (D := (dC, dI)) (ci := 5) (v := .ref (o 14)) (C := RX5) (T := TX5) (N := 16) hx hb hts kt_X5 hown hK hP 0 rfl rfl 9 (by decide) (kx_word hG kq_19_xouts_0 rfl) (fun _ h9 => h9) rfl dX5_addLocators_43 ?_
          refine lv_iload_n hx hb dX5_addLocators_46 rfl (lv_at hl 2 rfl) ?_
          refine lv_iload_n hx hb dX5_addLocators_47 rfl (lv_at hl 2 rfl) ?_
          refine lv_iconst (v := iz 0) hx hb dX5_addLocators_48 (by decide) ?_
          have hPc := hP.sub (ws' := (sU cI 1600 (o 14) (o 7) (o 8) (o 9) r1_31 r2_35 r3_39 n1_32 n2_36 n3_40 z1_33 z2_37 z3_41 F1_34 F2_38 F3_42)) [17, 18, 19, 20, 21, 22, 23] rfl
          have hDc := hD.sub (ws' := (sU cI 1600 (o 14) (o 7) (o 8) (o 9) r1_31 r2_35 r3_39 n1_32 n2_36 n3_40 z1_33 z2_37 z3_41 F1_34 F2_38 F3_42)) [17, 18, 19, 20, 21, 22, 23] (by decide) rfl
          have hFc := va_free (wc := (sU cI 1600 (o 14) (o 7) (o 8) (o 9) r1_31 r2_35 r3_39 n1_32 n2_36 n3_40 z1_33 z2_37 z3_41 F1_34 F2_38 F3_42)) hD hS hA [17, 18, 19, 20, 21, 22, 23] rfl
          refine xk_call (va_runV (As := [.int (iz p1), .int (iz p1), .int (iz 0)]) (rest := []) ⟨hx, hb, hml, hown, hts⟩ (x_sadd l dC dI cI cB cE 1600 (o 14) (o 7) (o 8) (o 9) r1_31 r2_35 r3_39 n1_32 n2_36 n3_40 z1_33 z2_37 z3_41 F1_34 F2_38 F3_42 p1 p1 0 H.size (by omega) hb143 (by omega) hb243 (by omega) hb343 (by omega) (by omega) (by omega) (by omega) (by omega)) (cwV 3 hts (kx_gV kq_19_xouts_1 kq_15_xspan_72 kq_15_xspan_73 kq_15_xspan_53 kq_15_xspan_74 rfl) rfl rfl rfl (by decide +kernel) ⟨Nat.le_of_ble_eq_true rfl, Nat.le_of_ble_eq_true rfl⟩) ⟨kx_blind, va_recv hK hPc (ci := 3) (q0 := 0) rfl rfl, kx_give (ws := []) (tys := []) hPc hDc hK hG hZ hS hFc⟩ rfl rfl hl.1 rfl (lv_room (Nat.le_of_ble_eq_true rfl)) dX5_addLocators_49 ⟨show (0 + dn_29) + 3 ≤ 150 from (by omega), show (0 + dm_30) + 4800 ≤ 60000 from (by omega)⟩) hS (fun q _ h => hFc q h) hFc (fun u dn_47 dm_48 t H locs ht hvm hq_46 hB hk1 hS => ?_)
          obtain ⟨r1_49, n1_50, z1_51, F1_52, r2_53, n2_54, z2_55, F2_56, r3_57, n3_58, z3_59, F3_60⟩ := u
          obtain ⟨hP1, hK1, hD1⟩ := hB
          rw [ht] at hP1
          obtain ⟨hP, hD⟩ := xj_pool (wr := [(o 15, .inr (5, [.ref (o 16), .ref (Eo 0 0), .int (iz (z 12)), .int (iz (z 13)), .int (iz (z 14)), .ref (o 0), .ref (o 1), .int (iz (z 15)), .ref (o 13), .ref (o 14), .int (iz (z 16)), .ref (o 2), .ref (o 12), .ref (o 3), .ref (o 10), .ref (o 11)])), (o 16, .inl (cE, 80, .inr (.inr (.inr (.inr G))))), (o 0, .inr (1, [.int (iz 80), .ref (r 0), .int (iz (z 0))])), (r 0, .inl (cI, n 0, .inl (iA (F 0)))), (o 1, .inr (1, [.int (iz 80), .ref (r 1), .int (iz (z 1))])), (r 1, .inl (cI, n 1, .inl (iA (F 1)))), (o 2, .inr (1, [.int (iz 80), .ref (r 2), .int (iz (z 2))])), (r 2, .inl (cI, n 2, .inl (iA (F 2)))), (o 3, .inr (1, [.int (iz 80), .ref (r 3), .int (iz (z 3))])), (r 3, .inl (cI, n 3, .inl (iA (F 3)))), (o 13, .inr (3, [.ref (o 4), .ref (o 5), .ref (o 6)])), (o 4, .inr (1, [.int (iz 1600), .ref (r 4), .int (iz (z 4))])), (r 4, .inl (cI, n 4, .inl (iA (F 4)))), (o 5, .inr (1, [.int (iz 1600), .ref (r 5), .int (iz (z 5))])), (r 5, .inl (cI, n 5, .inl (iA (F 5)))), (o 6, .inr (1, [.int (iz 1600), .ref (r 6), .int (iz (z 6))])), (r 6, .inl (cI, n 6, .inl (iA (F 6)))), (o 12, .inr (4, [.int (iz (z 17)), .int (iz (z 18)), .int (iz (z 19)), .int (iz (z 20)), .int (iz (z 21))])), (o 10, .inr (2, [.ref (r 10), .int (iz (z 10)), .int (iz (z 22))])), (r 10, .inl (cB, n 10, .inl (iA (F 10)))), (o 11, .inr (2, [.ref (r 11), .int (iz (z 11)), .int (iz (z 23))])), (r 11, .inl (cB, n 11, .inl (iA (F 11))))]) (w1 := (sU cI 1600 (o 14) (o 7) (o 8) (o 9) r1_49 r2_53 r3_57 n1_50 n2_54 n3_58 z1_51 z2_55 z3_59 F1_52 F2_56 F3_60)) (ws' := (xU cI cB cE o (va_up (va_up (va_up r 7 r1_49) 8 r2_53) 9 r3_57) (va_up (va_up (va_up n 7 n1_50) 8 n2_54) 9 n3_58) (va_up (va_up (va_up z 7 z1_51) 8 z2_55) 9 z3_59) (va_up (va_up (va_up F 7 F1_52) 8 F2_56) 9 F3_60) G (Eo 0 0))) hP hD [17, 18, 19, 20, 21, 22, 23] [0, 1, 2, 3, 4, 5, 6, 7, 8, 9, 10, 11, 12, 13, 14, 15, 16, 24, 25, 26, 27, 28] [0, 1, 2, 3, 4, 5, 6, 7, 8, 9, 10, 11, 12, 13, 14, 15, 16, 22, 23, 24, 25, 26, 27, 28, 17, 18, 19, 20, 21] rfl rfl (by decide) (by decide) hk1 hFc hP1 hD1 rfl (by decide)
          refine W.eq (g2 := F0 m 52 ls []) rfl ?_
          try dsimp only at hq_46
          obtain ⟨ha61, hb161, hb61, hb261, hc61, hb361, hd61, hA61, hAA61⟩ := hq_46
          have hax61 := hA61.1
          have hpg161 := psg_le 1600 (n1_32)
          have hpj161 := psj_le (L := 1600) (by omega) (n1_32)
          have hpg261 := psg_le 1600 (n2_36)
          have hpj261 := psj_le (L := 1600) (by omega) (n2_36)
          have hpg361 := psg_le 1600 (n3_40)
          have hpj361 := psj_le (L := 1600) (by omega) (n3_40)
          have hok62 : xOk (va_up (va_up (va_up n 7 n1_50) 8 n2_54) 9 n3_58) (va_up (va_up (va_up z 7 z1_51) 8 z2_55) 9 z3_59) (va_up (va_up (va_up F 7 F1_52) 8 F2_56) 9 F3_60) := (((hok.i 7 (by decide) (show 0 ≤ z1_51 ∧ z1_51 ≤ ((n1_50 : Nat) : Int) ∧ ((n1_50 : Nat) : Int) ≤ 1600 by omega) hb161).i 8 (by decide) (show 0 ≤ z2_55 ∧ z2_55 ≤ ((n2_54 : Nat) : Int) ∧ ((n2_54 : Nat) : Int) ≤ 1600 by omega) hb261).i 9 (by decide) (show 0 ≤ z3_59 ∧ z3_59 ≤ ((n3_58 : Nat) : Int) ∧ ((n3_58 : Nat) : Int) ≤ 1600 by omega) hb361)
          have hfr62 : xFr [7, 8, 9] [7, 8, 9] z F (va_up (va_up (va_up z 7 z1_51) 8 z2_55) 9 z3_59) (va_up (va_up (va_up F 7 F1_52) 8 F2_56) 9 F3_60) := ((((((hfr.uz 7 (by decide) _).uz 8 (by decide) _).uz 9 (by decide) _).uf 7 (by decide) _).uf 8 (by decide) _).uf 9 (by decide) _)
          have hcg62 : (dn_29 + dn_47) + xg (va_up (va_up (va_up n 7 n1_50) 8 n2_54) 9 n3_58) ≤ xg n := by unfold xg; simp (decide := true) only [va_ev, ↓reduceIte]; omega
          have hcp62 : (dm_30 + dm_48) + xp (va_up (va_up (va_up n 7 n1_50) 8 n2_54) 9 n3_58) ≤ xp n := by unfold xp; simp (decide := true) only [va_ev, ↓reduceIte]; omega
          exact xk_vret (ov := (fun _ : (Nat → Nat) × (Nat → Nat) × (Nat → Int) × (Nat → Int → Int) × (Nat → Nat → Nat) × (Nat → Nat → Nat) × (Nat → Nat → Int) × (Nat → Nat → Int → Int) => none)) (post := (fun (u : (Nat → Nat) × (Nat → Nat) × (Nat → Int) × (Nat → Int → Int) × (Nat → Nat → Nat) × (Nat → Nat → Nat) × (Nat → Nat → Int) × (Nat → Nat → Int → Int)) (dn dm : Nat) => match u with | (r', n', z', F', Er', En', Ez', EF') => xR [7, 8, 9] [7, 8, 9] [] [] N z F En Ez EF n' z' F' En' Ez' EF' ∧ (dn + xg n' ≤ xg n + 0 ∧ dm + xp n' ≤ xp n + 0) ∧ (True))) (ws := (fun u : (Nat → Nat) × (Nat → Nat) × (Nat → Int) × (Nat → Int → Int) × (Nat → Nat → Nat) × (Nat → Nat → Nat) × (Nat → Nat → Int) × (Nat → Nat → Int → Int) => match u with | (r', n', z', F', Er', En', Ez', EF') => (xU cI cB cE o r' n' z' F' G (Eo 0 0) ++ eP cI N Eo Er' En' Ez' EF'))) (tys := xT cI cB cE) ((va_up (va_up (va_up r 7 r1_49) 8 r2_53) 9 r3_57), (va_up (va_up (va_up n 7 n1_50) 8 n2_54) 9 n3_58), (va_up (va_up (va_up z 7 z1_51) 8 z2_55) 9 z3_59), (va_up (va_up (va_up F 7 F1_52) 8 F2_56) 9 F3_60), Er, En, Ez, EF) hx hb hr hlocks rfl hP hD hK hS dX5_addLocators_52 (fun dn dm hdn hdm => ⟨⟨hok62, hfr62, hPE, hef⟩, ⟨by omega, by omega⟩, trivial⟩) (by omega) (by omega)
      · skip
        refine lv_aload_n hx hb dX5_addLocators_16 rfl (lv_at hl 0 rfl) ?_
        refine va_get (D := (dC, dI)) (ci := 5) (v := .ref (o 14)) (C := RX5) (T := TX5) (N := 16) hx hb hts kt_X5 hown hK hP 0 rfl rfl 9 (by decide) (kx_word hG kq_19_xouts_0 rfl) (fun _ h9 => h9) rfl dX5_addLocators_17 ?_
        refine lv_iload_n hx hb dX5_addLocators_20 rfl (lv_at hl 1 rfl) ?_
        refine lv_iload_n hx hb dX5_addLocators_21 rfl (lv_at hl 2 rfl) ?_
        refine lv_iload_n hx hb dX5_addLocators_22 rfl (lv_at hl 3 rfl) ?_
        have hxi_63 : 0 ≤ z 7 ∧ z 7 ≤ ((n 7 : Nat) : Int) ∧ ((n 7 : Nat) : Int) ≤ 1600 := hok.1 7 (by decide)
        have hxi_64 : 0 ≤ z 8 ∧ z 8 ≤ ((n 8 : Nat) : Int) ∧ ((n 8 : Nat) : Int) ≤ 1600 := hok.1 8 (by decide)
        have hxi_65 : 0 ≤ z 9 ∧ z 9 ≤ ((n 9 : Nat) : Int) ∧ ((n 9 : Nat) : Int) ≤ 1600 := hok.1 9 (by decide)
        have hPc := hP.sub (ws' := (sU cI 1600 (o 14) (o 7) (o 8) (o 9) (r 7) (r 8) (r 9) (n 7) (n 8) (n 9) (z 7) (z 8) (z 9) (F 7) (F 8) (F 9))) [17, 18, 19, 20, 21, 22, 23] rfl
        have hDc := hD.sub (ws' := (sU cI 1600 (o 14) (o 7) (o 8) (o 9) (r 7) (r 8) (r 9) (n 7) (n 8) (n 9) (z 7) (z 8) (z 9) (F 7) (F 8) (F 9))) [17, 18, 19, 20, 21, 22, 23] (by decide) rfl
        have hFc := va_free (wc := (sU cI 1600 (o 14) (o 7) (o 8) (o 9) (r 7) (r 8) (r 9) (n 7) (n 8) (n 9) (z 7) (z 8) (z 9) (F 7) (F 8) (F 9))) hD hS hA [17, 18, 19, 20, 21, 22, 23] rfl
        refine xk_call (va_runV (As := [.int (iz p0), .int (iz p1), .int (iz p2)]) (rest := []) ⟨hx, hb, hml, hown, hts⟩ (x_sadd l dC dI cI cB cE 1600 (o 14) (o 7) (o 8) (o 9) (r 7) (r 8) (r 9) (n 7) (n 8) (n 9) (z 7) (z 8) (z 9) (F 7) (F 8) (F 9) p0 p1 p2 s.heap.size (by omega) (hok.2.2.1 7) (by omega) (hok.2.2.1 8) (by omega) (hok.2.2.1 9) (by omega) (by omega) (by omega) (by omega) (by omega)) (cwV 3 hts (kx_gV kq_19_xouts_1 kq_15_xspan_72 kq_15_xspan_73 kq_15_xspan_53 kq_15_xspan_74 rfl) rfl rfl rfl (by decide +kernel) ⟨Nat.le_of_ble_eq_true rfl, Nat.le_of_ble_eq_true rfl⟩) ⟨kx_blind, va_recv hK hPc (ci := 3) (q0 := 0) rfl rfl, kx_give (ws := []) (tys := []) hPc hDc hK hG hZ hS hFc⟩ rfl rfl hl.1 rfl (lv_room (Nat.le_of_ble_eq_true rfl)) dX5_addLocators_23 ⟨show 0 + 3 ≤ 150 from (by omega), show 0 + 4800 ≤ 60000 from (by omega)⟩) hS (fun q _ h => hFc q h) hFc (fun u dn_67 dm_68 t H locs ht hvm hq_66 hB hk1 hS => ?_)
        obtain ⟨r1_69, n1_70, z1_71, F1_72, r2_73, n2_74, z2_75, F2_76, r3_77, n3_78, z3_79, F3_80⟩ := u
        obtain ⟨hP1, hK1, hD1⟩ := hB
        rw [ht] at hP1
        obtain ⟨hP, hD⟩ := xj_pool (wr := [(o 15, .inr (5, [.ref (o 16), .ref (Eo 0 0), .int (iz (z 12)), .int (iz (z 13)), .int (iz (z 14)), .ref (o 0), .ref (o 1), .int (iz (z 15)), .ref (o 13), .ref (o 14), .int (iz (z 16)), .ref (o 2), .ref (o 12), .ref (o 3), .ref (o 10), .ref (o 11)])), (o 16, .inl (cE, 80, .inr (.inr (.inr (.inr G))))), (o 0, .inr (1, [.int (iz 80), .ref (r 0), .int (iz (z 0))])), (r 0, .inl (cI, n 0, .inl (iA (F 0)))), (o 1, .inr (1, [.int (iz 80), .ref (r 1), .int (iz (z 1))])), (r 1, .inl (cI, n 1, .inl (iA (F 1)))), (o 2, .inr (1, [.int (iz 80), .ref (r 2), .int (iz (z 2))])), (r 2, .inl (cI, n 2, .inl (iA (F 2)))), (o 3, .inr (1, [.int (iz 80), .ref (r 3), .int (iz (z 3))])), (r 3, .inl (cI, n 3, .inl (iA (F 3)))), (o 13, .inr (3, [.ref (o 4), .ref (o 5), .ref (o 6)])), (o 4, .inr (1, [.int (iz 1600), .ref (r 4), .int (iz (z 4))])), (r 4, .inl (cI, n 4, .inl (iA (F 4)))), (o 5, .inr (1, [.int (iz 1600), .ref (r 5), .int (iz (z 5))])), (r 5, .inl (cI, n 5, .inl (iA (F 5)))), (o 6, .inr (1, [.int (iz 1600), .ref (r 6), .int (iz (z 6))])), (r 6, .inl (cI, n 6, .inl (iA (F 6)))), (o 12, .inr (4, [.int (iz (z 17)), .int (iz (z 18)), .int (iz (z 19)), .int (iz (z 20)), .int (iz (z 21))])), (o 10, .inr (2, [.ref (r 10), .int (iz (z 10)), .int (iz (z 22))])), (r 10, .inl (cB, n 10, .inl (iA (F 10)))), (o 11, .inr (2, [.ref (r 11), .int (iz (z 11)), .int (iz (z 23))])), (r 11, .inl (cB, n 11, .inl (iA (F 11))))]) (w1 := (sU cI 1600 (o 14) (o 7) (o 8) (o 9) r1_69 r2_73 r3_77 n1_70 n2_74 n3_78 z1_71 z2_75 z3_79 F1_72 F2_76 F3_80)) (ws' := (xU cI cB cE o (va_up (va_up (va_up r 7 r1_69) 8 r2_73) 9 r3_77) (va_up (va_up (va_up n 7 n1_70) 8 n2_74) 9 n3_78) (va_up (va_up (va_up z 7 z1_71) 8 z2_75) 9 z3_79) (va_up (va_up (va_up F 7 F1_72) 8 F2_76) 9 F3_80) G (Eo 0 0))) hP hD [17, 18, 19, 20, 21, 22, 23] [0, 1, 2, 3, 4, 5, 6, 7, 8, 9, 10, 11, 12, 13, 14, 15, 16, 24, 25, 26, 27, 28] [0, 1, 2, 3, 4, 5, 6, 7, 8, 9, 10, 11, 12, 13, 14, 15, 16, 22, 23, 24, 25, 26, 27, 28, 17, 18, 19, 20, 21] rfl rfl (by decide) (by decide) hk1 hFc hP1 hD1 rfl (by decide)
        refine W.eq (g2 := F0 m 26 ls []) rfl ?_
        try dsimp only at hq_66
        obtain ⟨ha81, hb181, hb81, hb281, hc81, hb381, hd81, hA81, hAA81⟩ := hq_66
        have hax81 := hA81.1
        have hpg181 := psg_le 1600 (n 7)
        have hpj181 := psj_le (L := 1600) (by omega) (n 7)
        have hpg281 := psg_le 1600 (n 8)
        have hpj281 := psj_le (L := 1600) (by omega) (n 8)
        have hpg381 := psg_le 1600 (n 9)
        have hpj381 := psj_le (L := 1600) (by omega) (n 9)
        have hok82 : xOk (va_up (va_up (va_up n 7 n1_70) 8 n2_74) 9 n3_78) (va_up (va_up (va_up z 7 z1_71) 8 z2_75) 9 z3_79) (va_up (va_up (va_up F 7 F1_72) 8 F2_76) 9 F3_80) := (((hok.i 7 (by decide) (show 0 ≤ z1_71 ∧ z1_71 ≤ ((n1_70 : Nat) : Int) ∧ ((n1_70 : Nat) : Int) ≤ 1600 by omega) hb181).i 8 (by decide) (show 0 ≤ z2_75 ∧ z2_75 ≤ ((n2_74 : Nat) : Int) ∧ ((n2_74 : Nat) : Int) ≤ 1600 by omega) hb281).i 9 (by decide) (show 0 ≤ z3_79 ∧ z3_79 ≤ ((n3_78 : Nat) : Int) ∧ ((n3_78 : Nat) : Int) ≤ 1600 by omega) hb381)
        have hfr82 : xFr [7, 8, 9] [7, 8, 9] z F (va_up (va_up (va_up z 7 z1_71) 8 z2_75) 9 z3_79) (va_up (va_up (va_up F 7 F1_72) 8 F2_76) 9 F3_80) := ((((((hfr.uz 7 (by decide) _).uz 8 (by decide) _).uz 9 (by decide) _).uf 7 (by decide) _).uf 8 (by decide) _).uf 9 (by decide) _)
        have hcg82 : (dn_67) + xg (va_up (va_up (va_up n 7 n1_70) 8 n2_74) 9 n3_78) ≤ xg n := by unfold xg; simp (decide := true) only [va_ev, ↓reduceIte]; omega
        have hcp82 : (dm_68) + xp (va_up (va_up (va_up n 7 n1_70) 8 n2_74) 9 n3_78) ≤ xp n := by unfold xp; simp (decide := true) only [va_ev, ↓reduceIte]; omega
        exact xk_vret (ov := (fun _ : (Nat → Nat) × (Nat → Nat) × (Nat → Int) × (Nat → Int → Int) × (Nat → Nat → Nat) × (Nat → Nat → Nat) × (Nat → Nat → Int) × (Nat → Nat → Int → Int) => none)) (post := (fun (u : (Nat → Nat) × (Nat → Nat) × (Nat → Int) × (Nat → Int → Int) × (Nat → Nat → Nat) × (Nat → Nat → Nat) × (Nat → Nat → Int) × (Nat → Nat → Int → Int)) (dn dm : Nat) => match u with | (r', n', z', F', Er', En', Ez', EF') => xR [7, 8, 9] [7, 8, 9] [] [] N z F En Ez EF n' z' F' En' Ez' EF' ∧ (dn + xg n' ≤ xg n + 0 ∧ dm + xp n' ≤ xp n + 0) ∧ (True))) (ws := (fun u : (Nat → Nat) × (Nat → Nat) × (Nat → Int) × (Nat → Int → Int) × (Nat → Nat → Nat) × (Nat → Nat → Nat) × (Nat → Nat → Int) × (Nat → Nat → Int → Int) => match u with | (r', n', z', F', Er', En', Ez', EF') => (xU cI cB cE o r' n' z' F' G (Eo 0 0) ++ eP cI N Eo Er' En' Ez' EF'))) (tys := xT cI cB cE) ((va_up (va_up (va_up r 7 r1_69) 8 r2_73) 9 r3_77), (va_up (va_up (va_up n 7 n1_70) 8 n2_74) 9 n3_78), (va_up (va_up (va_up z 7 z1_71) 8 z2_75) 9 z3_79), (va_up (va_up (va_up F 7 F1_72) 8 F2_76) 9 F3_80), Er, En, Ez, EF) hx hb hr hlocks rfl hP hD hK hS dX5_addLocators_26 (fun dn dm hdn hdm => ⟨⟨hok82, hfr82, hPE, hef⟩, ⟨by omega, by omega⟩, trivial⟩) (by omega) (by omega)
  · skip
    exact xk_vret (ov := (fun _ : (Nat → Nat) × (Nat → Nat) × (Nat → Int) × (Nat → Int → Int) × (Nat → Nat → Nat) × (Nat → Nat → Nat) × (Nat → Nat → Int) × (Nat → Nat → Int → Int) => none)) (post := (fun (u : (Nat → Nat) × (Nat → Nat) × (Nat → Int) × (Nat → Int → Int) × (Nat → Nat → Nat) × (Nat → Nat → Nat) × (Nat → Nat → Int) × (Nat → Nat → Int → Int)) (dn dm : Nat) => match u with | (r', n', z', F', Er', En', Ez', EF') => xR [7, 8, 9] [7, 8, 9] [] [] N z F En Ez EF n' z' F' En' Ez' EF' ∧ (dn + xg n' ≤ xg n + 0 ∧ dm + xp n' ≤ xp n + 0) ∧ (True))) (ws := (fun u : (Nat → Nat) × (Nat → Nat) × (Nat → Int) × (Nat → Int → Int) × (Nat → Nat → Nat) × (Nat → Nat → Nat) × (Nat → Nat → Int) × (Nat → Nat → Int → Int) => match u with | (r', n', z', F', Er', En', Ez', EF') => (xU cI cB cE o r' n' z' F' G (Eo 0 0) ++ eP cI N Eo Er' En' Ez' EF'))) (tys := xT cI cB cE) (r, n, z, F, Er, En, Ez, EF) hx hb hr hlocks rfl hP hD hK hS dX5_addLocators_4 (fun dn dm hdn hdm => ⟨⟨hok, hfr, hPE, hef⟩, ⟨by omega, by omega⟩, trivial⟩) (by omega) (by omega)
set_option maxHeartbeats 4000000 in
set_option maxRecDepth 100000 in
theorem y_joinGathered (l : Launch) (dC : Nat → ClassId) (dI : Nat → Nat → Nat) (cI cB cE : ClassId) (o r n : Nat → Nat) (z : Nat → Int) (F : Nat → Int → Int) (G : Nat → Option Nat) (N : Nat) (Eo Er En : Nat → Nat → Nat) (Ez : Nat → Nat → Int) (EF : Nat → Nat → Int → Int) (sz : Nat) (hok : xOk n z F) (hxG : xG N (z 12) G Eo) (hPE : eA N En Ez EF) : Met l yX5_joinGathered [.code yX5_joinGathered cX5_joinGathered 5 none] ({ frames := 5, cells := 250, slots := 110000, locals := 149 }) (va_Pc [.ref (o 15)] (kx_Pre dC dI (xU cI cB cE o r n z F G (Eo 0 0) ++ eP cI N Eo Er En Ez EF) (xT cI cB cE) sz)) (xQ (fun _ : (Nat → Nat) × (Nat → Nat) × (Nat → Int) × (Nat → Int → Int) × (Nat → Nat → Nat) × (Nat → Nat → Nat) × (Nat → Nat → Int) × (Nat → Nat → Int → Int) => none) (fun (u : (Nat → Nat) × (Nat → Nat) × (Nat → Int) × (Nat → Int → Int) × (Nat → Nat → Nat) × (Nat → Nat → Nat) × (Nat → Nat → Int) × (Nat → Nat → Int → Int)) (dn dm : Nat) => match u with | (r', n', z', F', Er', En', Ez', EF') => xR [7, 8, 9] [7, 8, 9] [] [] N z F En Ez EF n' z' F' En' Ez' EF' ∧ (dn + xg n' ≤ xg n + 0 ∧ dm + xp n' ≤ xp n + 0) ∧ (True)) (fun u t => kx_At dC dI (va_A (xU cI cB cE o r n z F G (Eo 0 0) ++ eP cI N Eo Er En Ez EF) sz) ((fun u : (Nat → Nat) × (Nat → Nat) × (Nat → Int) × (Nat → Int → Int) × (Nat → Nat → Nat) × (Nat → Nat → Nat) × (Nat → Nat → Int) × (Nat → Nat → Int → Int) => match u with | (r', n', z', F', Er', En', Ez', EF') => (xU cI cB cE o r' n' z' F' G (Eo 0 0) ++ eP cI N Eo Er' En' Ez' EF')) u) (xT cI cB cE) t) (va_A (xU cI cB cE o r n z F G (Eo 0 0) ++ eP cI N Eo Er En Ez EF) sz)) 250 110000 (va_A (xU cI cB cE o r n z F G (Eo 0 0) ++ eP cI N Eo Er En Ez EF) sz) := by
  refine Met.ofW (cc := cX5_joinGathered) (maxL := 5) (ret := none) (by decide) rfl ?_
  intro p e s m args below meth c s₁ B hml hv
  obtain ⟨rfl, hsz, hP, hK, hD0, hG, hZ⟩ := hv
  have hx := B.exec
  have hb := B.bytes
  have hr := B.returns
  have hts := kx_hts (a := ([.ref (o 15)] : List Value).toArray) hG
  have hown : s.vm.findClass RX5 = some m.cls := findClass_of_methodNamed B.named
  have hlocks := B.notSynchronized
  subst hsz
  have hD := hD0.self (sz := s.heap.size)
  generalize hAe : va_A (xU cI cB cE o r n z F G (Eo 0 0) ++ eP cI N Eo Er En Ez EF) s.heap.size = A at hD hZ ⊢
  have hA : ∀ q : Nat, s.heap.size ≤ q → A q := fun q h => by rw [← hAe]; exact Or.inr h
  have hS : va_S A s.heap s.heap [] := va_S.rf
  have hl := lv_entry ([.ref (o 15)]) (n := 5) (Nat.le_of_ble_eq_true rfl)
  rw [lg_entry_eq]
  generalize (lg_sl ([.ref (o 15)]) ++ List.replicate (5 - (lg_sl ([.ref (o 15)])).length) Slot.unset).toArray = ls at hl ⊢
  obtain ⟨hN1, hN2, hN3, hN4⟩ := hxG
  have hef : eFr [] [] En Ez EF En Ez EF := eFr.rf
  have hfr : xFr [7, 8, 9] [7, 8, 9] z F z F := xFr.rf
  have hxgl := xg_le n
  have hxpl := xp_le n
  have hl : lv_has ls 5 [(0, .ref (o 15))] := hl
  generalize hQe : MQ below (xQ (fun _ : (Nat → Nat) × (Nat → Nat) × (Nat → Int) × (Nat → Int → Int) × (Nat → Nat → Nat) × (Nat → Nat → Nat) × (Nat → Nat → Int) × (Nat → Nat → Int → Int) => none) (fun (u : (Nat → Nat) × (Nat → Nat) × (Nat → Int) × (Nat → Int → Int) × (Nat → Nat → Nat) × (Nat → Nat → Nat) × (Nat → Nat → Int) × (Nat → Nat → Int → Int)) (dn dm : Nat) => match u with | (r', n', z', F', Er', En', Ez', EF') => xR [7, 8, 9] [7, 8, 9] [] [] N z F En Ez EF n' z' F' En' Ez' EF' ∧ (dn + xg n' ≤ xg n + 0 ∧ dm + xp n' ≤ xp n + 0) ∧ (True)) (fun u t => kx_At dC dI A ((fun u : (Nat → Nat) × (Nat → Nat) × (Nat → Int) × (Nat → Int → Int) × (Nat → Nat → Nat) × (Nat → Nat → Nat) × (Nat → Nat → Int) × (Nat → Nat → Int → Int) => match u with | (r', n', z', F', Er', En', Ez', EF') => (xU cI cB cE o r' n' z' F' G (Eo 0 0) ++ eP cI N Eo Er' En' Ez' EF')) u) (xT cI cB cE) t) A) ([.ref (o 15)] : List Value).toArray s 250 110000 A = QQ
  have hz4 : 0 ≤ z 4 ∧ z 4 ≤ (n 4 : Int) ∧ (n 4 : Int) ≤ 1600 := hok.1 4 (by decide)
  refine lv_iconst (v := iz 0) hx hb dX5_joinGathered_0 (by decide) ?_
  refine lv_istore_n (lv' := [(1, .int (iz 0)), (0, .ref (o 15))]) hx hb dX5_joinGathered_1 rfl hl (by decide) rfl (fun ls hl => ?_)
  refine lv_iconst (v := iz 0) hx hb dX5_joinGathered_2 (by decide) ?_
  refine lv_istore_n (lv' := [(2, .int (iz 0)), (1, .int (iz 0)), (0, .ref (o 15))]) hx hb dX5_joinGathered_3 rfl hl (by decide) rfl (fun ls hl => ?_)
  refine lv_iconst (v := iz 0) hx hb dX5_joinGathered_4 (by decide) ?_
  refine lv_istore_n (lv' := [(3, .int (iz 0)), (2, .int (iz 0)), (1, .int (iz 0)), (0, .ref (o 15))]) hx hb dX5_joinGathered_5 rfl hl (by decide) rfl (fun ls hl => ?_)
  refine lv_iconst (v := iz 0) hx hb dX5_joinGathered_6 (by decide) ?_
  refine lv_istore (lv' := [(4, .int (iz 0)), (3, .int (iz 0)), (2, .int (iz 0)), (1, .int (iz 0)), (0, .ref (o 15))]) hx hb dX5_joinGathered_7 hl (by decide) rfl (fun ls hl => ?_)
  have lp9 : ∀ (n0 : Nat) (fv : Int) (tv : Int) (bv : Int) (k : Int) (rL9 : Nat → Nat) (nL9 : Nat → Nat) (zL9 : Nat → Int) (FL9 : Nat → Int → Int) (ErL9 : Nat → Nat → Nat) (EnL9 : Nat → Nat → Nat) (EzL9 : Nat → Nat → Int) (EFL9 : Nat → Nat → Int → Int) (cv : Nat) (sv : Nat), ((xR [7, 8, 9] [7, 8, 9] [] [] N z F En Ez EF nL9 zL9 FL9 EnL9 EzL9 EFL9) ∧ (cv + xg nL9 ≤ xg n + (0) ∧ sv + xp nL9 ≤ xp n + (0)) ∧ (zL9 12 = z 12) ∧ (-2147483648 ≤ fv ∧ fv < 2147483648) ∧ (-2147483648 ≤ tv ∧ tv < 2147483648) ∧ (bv = 0 ∨ bv = 1) ∧ (0 ≤ k ∧ k ≤ 1600)) → (z 4 - k).toNat < n0 → ∀ (H : Heap) (locs : List Loc), va_P (dC, dI) kxCl ((xU cI cB cE o rL9 nL9 zL9 FL9 G (Eo 0 0)) ++ (eP cI N Eo ErL9 EnL9 EzL9 EFL9)) H → va_D A ((xU cI cB cE o rL9 nL9 zL9 FL9 G (Eo 0 0)) ++ (eP cI N Eo ErL9 EnL9 EzL9 EFL9)) → va_S A s.heap H locs → ∀ ls : Array Slot, lv_has ls 5 [(4, .int (iz k)), (3, .int (iz bv)), (2, .int (iz tv)), (1, .int (iz fv)), (0, .ref (o 15))] → W p l e (headSpec [.code yX5_joinGathered cX5_joinGathered 5 none] ({ frames := 5, cells := 250, slots := 110000, locals := 149 })).room s m ([.ref (o 15)] : List Value).toArray below meth c H locs cv sv QQ (F0 m 9 ls []) := by
    intro n0
    induction n0 with
    | zero => intro fv tv bv k rL9 nL9 zL9 FL9 ErL9 EnL9 EzL9 EFL9 cv sv hinv hm0; exact absurd hm0 (Nat.not_lt_zero _)
    | succ n0 ih9 =>
      intro fv tv bv k rL9 nL9 zL9 FL9 ErL9 EnL9 EzL9 EFL9 cv sv hinv hm0 H locs hP hD hS ls hl
      obtain ⟨hRLL9, hCLL9, hZLL9, hfv, htv, hbv, hk⟩ := hinv
      have hkzL9_4 : zL9 4 = z 4 := hRLL9.2.1.1 4 (by decide)
      refine lv_iload hx hb dX5_joinGathered_9 (lv_at hl 0 rfl) ?_
      refine lv_aload_n hx hb dX5_joinGathered_11 rfl (lv_at hl 4 rfl) ?_
      refine va_get (D := (dC, dI)) (ci := 5) (v := .ref (o 13)) (C := RX5) (T := TX5) (N := 16) hx hb hts kt_X5 hown hK hP 0 rfl rfl 8 (by decide) (kx_word hG kq_19_xouts_2 rfl) (fun _ h9 => h9) rfl dX5_joinGathered_12 ?_
      have hxi_1 : 0 ≤ zL9 4 ∧ zL9 4 ≤ ((nL9 4 : Nat) : Int) ∧ ((nL9 4 : Nat) : Int) ≤ 1600 := hRLL9.1.1 4 (by decide)
      have hxi_2 : 0 ≤ zL9 5 ∧ zL9 5 ≤ ((nL9 5 : Nat) : Int) ∧ ((nL9 5 : Nat) : Int) ≤ 1600 := hRLL9.1.1 5 (by decide)
      have hxi_3 : 0 ≤ zL9 6 ∧ zL9 6 ≤ ((nL9 6 : Nat) : Int) ∧ ((nL9 6 : Nat) : Int) ≤ 1600 := hRLL9.1.1 6 (by decide)
      have hPc := hP.sub (ws' := (sU cI 1600 (o 13) (o 4) (o 5) (o 6) (rL9 4) (rL9 5) (rL9 6) (nL9 4) (nL9 5) (nL9 6) (zL9 4) (zL9 5) (zL9 6) (FL9 4) (FL9 5) (FL9 6))) [10, 11, 12, 13, 14, 15, 16] rfl
      refine xk_pure (va_runV (As := []) (rest := [.int (iz k)]) ⟨hx, hb, hml, hown, hts⟩ (x_ssize l dC dI cI cB cE 1600 (o 13) (o 4) (o 5) (o 6) (rL9 4) (rL9 5) (rL9 6) (nL9 4) (nL9 5) (nL9 6) (zL9 4) (zL9 5) (zL9 6) (FL9 4) (FL9 5) (FL9 6)  H.size ) (cwV 0 hts (kx_gV kq_19_xouts_3 kq_15_xspan_51 kq_15_xspan_52 kq_15_xspan_53 kq_15_xspan_54 rfl) rfl rfl rfl (by decide +kernel) ⟨Nat.le_of_ble_eq_true rfl, Nat.le_of_ble_eq_true rfl⟩) ⟨pPre_blind, va_recv hK hPc (ci := 3) (q0 := 0) rfl rfl, pPre_give hPc hK hG⟩ rfl rfl hl.1 rfl (lv_room (Nat.le_of_ble_eq_true rfl)) dX5_joinGathered_15 ⟨show cv + 0 ≤ 250 from (by omega), show sv + 0 ≤ 110000 from (by omega)⟩) hS (fun z_5 locs hq_4 hS => ?_)
      refine W.eq (g2 := F0 m 18 ls [.int (iz z_5), .int (iz k)]) rfl ?_
      try dsimp only at hq_4
      have hq_4 := hq_4.symm
      subst hq_4
      refine ki_icmp_ge (tgt := 123) hx hb dX5_joinGathered_18 (by decide) (by omega) (by omega) (by omega) (by omega) (fun c_6 => ?_) (fun c_6 => ?_)
      · skip
        refine lv_aload_n hx hb dX5_joinGathered_123 rfl (lv_at hl 4 rfl) ?_
        refine lv_iload_n hx hb dX5_joinGathered_124 rfl (lv_at hl 3 rfl) ?_
        refine lv_iload_n hx hb dX5_joinGathered_125 rfl (lv_at hl 2 rfl) ?_
        refine lv_iload_n hx hb dX5_joinGathered_126 rfl (lv_at hl 1 rfl) ?_
        have hxz_7 : -2147483648 ≤ zL9 12 ∧ zL9 12 < 2147483648 := hRLL9.1.2.2.2.1 12
        have hxG9 : xG N (zL9 12) G Eo := ⟨by omega, by omega, by omega, fun e9 h9 => hN4 e9 (by omega)⟩
        have hP : va_P (dC, dI) kxCl (xU cI cB cE o rL9 nL9 zL9 FL9 G (Eo 0 0) ++ eP cI N Eo ErL9 EnL9 EzL9 EFL9) H := hP
        have hD : va_D A (xU cI cB cE o rL9 nL9 zL9 FL9 G (Eo 0 0) ++ eP cI N Eo ErL9 EnL9 EzL9 EFL9) := hD
        have hFc := xw_free hD hS hA
        refine xk_call (va_runV (As := [.int (iz fv), .int (iz tv), .int (iz bv)]) (rest := []) ⟨hx, hb, hml, hown, hts⟩ (y_addLocators l dC dI cI cB cE o rL9 nL9 zL9 FL9 G N Eo ErL9 EnL9 EzL9 EFL9 fv tv bv H.size hRLL9.1 hxG9 hRLL9.2.2.1 (by omega) (by omega) (by omega) (by omega) (by omega)) (cwV 3 hts (kx_gV kq_19_xouts_4 kq_19_xouts_5 kq_19_xouts_6 kq_18_xrows_4 kq_19_xouts_7 rfl) rfl rfl rfl (by decide +kernel) ⟨Nat.le_of_ble_eq_true rfl, Nat.le_of_ble_eq_true rfl⟩) ⟨kx_blind, va_recv hK hP (ci := 5) (q0 := 0) rfl rfl, kx_give (ws := []) (tys := []) hP hD hK hG hZ hS hFc⟩ rfl rfl hl.1 rfl (lv_room (Nat.le_of_ble_eq_true rfl)) dX5_joinGathered_127 ⟨show cv + 150 ≤ 250 from (by omega), show sv + 60000 ≤ 110000 from (by omega)⟩) hS (fun q _ h => hFc q h) hFc (fun u dn_10 dm_11 t H locs ht hvm hq_8 hB hk1 hS => ?_)
        obtain ⟨r_12, n_13, z_14, F_15, Er_16, En_17, Ez_18, EF_19⟩ := u
        obtain ⟨hP, hK1, hD1⟩ := hB
        rw [ht] at hP
        have hD := hD1.weaken (fun _ q _ h => hFc _ h)
        obtain ⟨hR20, hC20, hq_8⟩ := hq_8
        have hok20 := hR20.1
        have hfr20 := hRLL9.2.1.tr (hR20.2.1.mono (S' := [7, 8, 9]) (T' := [7, 8, 9]) (by decide) (by decide))
        have hPE20 := hR20.2.2.1
        have hef20 := hRLL9.2.2.2.tr (hR20.2.2.2.mono (S' := []) (T' := []) (by decide) (by decide))
        have hz20 : z_14 12 = (zL9 12) := hR20.2.1.1 12 (by decide)
        have hkz20_4 : z_14 4 = z 4 := hfr20.1 4 (by decide)
        refine W.eq (g2 := F0 m 130 ls []) rfl ?_
        try dsimp only at hq_8
        rw [← hQe]
        exact xk_vret (ov := (fun _ : (Nat → Nat) × (Nat → Nat) × (Nat → Int) × (Nat → Int → Int) × (Nat → Nat → Nat) × (Nat → Nat → Nat) × (Nat → Nat → Int) × (Nat → Nat → Int → Int) => none)) (post := (fun (u : (Nat → Nat) × (Nat → Nat) × (Nat → Int) × (Nat → Int → Int) × (Nat → Nat → Nat) × (Nat → Nat → Nat) × (Nat → Nat → Int) × (Nat → Nat → Int → Int)) (dn dm : Nat) => match u with | (r', n', z', F', Er', En', Ez', EF') => xR [7, 8, 9] [7, 8, 9] [] [] N z F En Ez EF n' z' F' En' Ez' EF' ∧ (dn + xg n' ≤ xg n + 0 ∧ dm + xp n' ≤ xp n + 0) ∧ (True))) (ws := (fun u : (Nat → Nat) × (Nat → Nat) × (Nat → Int) × (Nat → Int → Int) × (Nat → Nat → Nat) × (Nat → Nat → Nat) × (Nat → Nat → Int) × (Nat → Nat → Int → Int) => match u with | (r', n', z', F', Er', En', Ez', EF') => (xU cI cB cE o r' n' z' F' G (Eo 0 0) ++ eP cI N Eo Er' En' Ez' EF'))) (tys := xT cI cB cE) (r_12, n_13, z_14, F_15, Er_16, En_17, Ez_18, EF_19) hx hb hr hlocks rfl hP hD hK hS dX5_joinGathered_130 (fun dn dm hdn hdm => ⟨⟨hok20, hfr20, hPE20, hef20⟩, ⟨by omega, by omega⟩, trivial⟩) (by omega) (by omega)
      · skip
        refine lv_iload hx hb dX5_joinGathered_21 (lv_at hl 0 rfl) ?_
        refine ki_if_le (tgt := 80) hx hb dX5_joinGathered_23 (by decide) (by omega) (by omega) (fun c_21 => ?_) (fun c_21 => ?_)
        · skip
          refine lv_aload_n hx hb dX5_joinGathered_80 rfl (lv_at hl 4 rfl) ?_
          refine lv_iload_n hx hb dX5_joinGathered_81 rfl (lv_at hl 3 rfl) ?_
          refine lv_iload_n hx hb dX5_joinGathered_82 rfl (lv_at hl 2 rfl) ?_
          refine lv_iload_n hx hb dX5_joinGathered_83 rfl (lv_at hl 1 rfl) ?_
          have hxz_22 : -2147483648 ≤ zL9 12 ∧ zL9 12 < 2147483648 := hRLL9.1.2.2.2.1 12
          have hxG9 : xG N (zL9 12) G Eo := ⟨by omega, by omega, by omega, fun e9 h9 => hN4 e9 (by omega)⟩
          have hP : va_P (dC, dI) kxCl (xU cI cB cE o rL9 nL9 zL9 FL9 G (Eo 0 0) ++ eP cI N Eo ErL9 EnL9 EzL9 EFL9) H := hP
          have hD : va_D A (xU cI cB cE o rL9 nL9 zL9 FL9 G (Eo 0 0) ++ eP cI N Eo ErL9 EnL9 EzL9 EFL9) := hD
          have hFc := xw_free hD hS hA
          refine xk_call (va_runV (As := [.int (iz fv), .int (iz tv), .int (iz bv)]) (rest := []) ⟨hx, hb, hml, hown, hts⟩ (y_addLocators l dC dI cI cB cE o rL9 nL9 zL9 FL9 G N Eo ErL9 EnL9 EzL9 EFL9 fv tv bv H.size hRLL9.1 hxG9 hRLL9.2.2.1 (by omega) (by omega) (by omega) (by omega) (by omega)) (cwV 3 hts (kx_gV kq_19_xouts_4 kq_19_xouts_5 kq_19_xouts_6 kq_18_xrows_4 kq_19_xouts_7 rfl) rfl rfl rfl (by decide +kernel) ⟨Nat.le_of_ble_eq_true rfl, Nat.le_of_ble_eq_true rfl⟩) ⟨kx_blind, va_recv hK hP (ci := 5) (q0 := 0) rfl rfl, kx_give (ws := []) (tys := []) hP hD hK hG hZ hS hFc⟩ rfl rfl hl.1 rfl (lv_room (Nat.le_of_ble_eq_true rfl)) dX5_joinGathered_84 ⟨show cv + 150 ≤ 250 from (by omega), show sv + 60000 ≤ 110000 from (by omega)⟩) hS (fun q _ h => hFc q h) hFc (fun u dn_25 dm_26 t H locs ht hvm hq_23 hB hk1 hS => ?_)
          obtain ⟨r_27, n_28, z_29, F_30, Er_31, En_32, Ez_33, EF_34⟩ := u
          obtain ⟨hP, hK1, hD1⟩ := hB
          rw [ht] at hP
          have hD := hD1.weaken (fun _ q _ h => hFc _ h)
          obtain ⟨hR35, hC35, hq_23⟩ := hq_23
          have hok35 := hR35.1
          have hfr35 := hRLL9.2.1.tr (hR35.2.1.mono (S' := [7, 8, 9]) (T' := [7, 8, 9]) (by decide) (by decide))
          have hPE35 := hR35.2.2.1
          have hef35 := hRLL9.2.2.2.tr (hR35.2.2.2.mono (S' := []) (T' := []) (by decide) (by decide))
          have hz35 : z_29 12 = (zL9 12) := hR35.2.1.1 12 (by decide)
          have hkz35_4 : z_29 4 = z 4 := hfr35.1 4 (by decide)
          refine W.eq (g2 := F0 m 87 ls []) rfl ?_
          try dsimp only at hq_23
          refine lv_aload_n hx hb dX5_joinGathered_87 rfl (lv_at hl 4 rfl) ?_
          refine va_get (D := (dC, dI)) (ci := 5) (v := .ref (o 13)) (C := RX5) (T := TX5) (N := 16) hx hb hts kt_X5 hown hK hP 0 rfl rfl 8 (by decide) (kx_word hG kq_19_xouts_2 rfl) (fun _ h9 => h9) rfl dX5_joinGathered_88 ?_
          refine lv_iload hx hb dX5_joinGathered_91 (lv_at hl 0 rfl) ?_
          have hxi_36 : 0 ≤ z_29 4 ∧ z_29 4 ≤ ((n_28 4 : Nat) : Int) ∧ ((n_28 4 : Nat) : Int) ≤ 1600 := hok35.1 4 (by decide)
          have hxi_37 : 0 ≤ z_29 5 ∧ z_29 5 ≤ ((n_28 5 : Nat) : Int) ∧ ((n_28 5 : Nat) : Int) ≤ 1600 := hok35.1 5 (by decide)
          have hxi_38 : 0 ≤ z_29 6 ∧ z_29 6 ≤ ((n_28 6 : Nat) : Int) ∧ ((n_28 6 : Nat) : Int) ≤ 1600 := hok35.1 6 (by decide)
          have hPc := hP.sub (ws' := (sU cI 1600 (o 13) (o 4) (o 5) (o 6) (r_27 4) (r_27 5) (r_27 6) (n_28 4) (n_28 5) (n_28 6) (z_29 4) (z_29 5) (z_29 6) (F_30 4) (F_30 5) (F_30 6))) [10, 11, 12, 13, 14, 15, 16] rfl
          refine xk_pure (va_runV (As := [.int (iz k)]) (rest := []) ⟨hx, hb, hml, hown, hts⟩ (x_sfrom l dC dI cI cB cE 1600 (o 13) (o 4) (o 5) (o 6) (r_27 4) (r_27 5) (r_27 6) (n_28 4) (n_28 5) (n_28 6) (z_29 4) (z_29 5) (z_29 6) (F_30 4) (F_30 5) (F_30 6) k H.size (by omega) (hok35.2.2.1 4) (by omega) (hok35.2.2.1 5) (by omega) (hok35.2.2.1 6) (by omega) (by omega)) (cwV 1 hts (kx_gV kq_19_xouts_8 kq_15_xspan_56 kq_15_xspan_57 kq_15_xspan_53 kq_15_xspan_58 rfl) rfl rfl rfl (by decide +kernel) ⟨Nat.le_of_ble_eq_true rfl, Nat.le_of_ble_eq_true rfl⟩) ⟨pPre_blind, va_recv hK hPc (ci := 3) (q0 := 0) rfl rfl, pPre_give hPc hK hG⟩ rfl rfl hl.1 rfl (lv_room (Nat.le_of_ble_eq_true rfl)) dX5_joinGathered_93 ⟨show (cv + dn_25) + 0 ≤ 250 from (by omega), show (sv + dm_26) + 0 ≤ 110000 from (by omega)⟩) hS (fun z_40 locs hq_39 hS => ?_)
          refine W.eq (g2 := F0 m 96 ls [.int (iz z_40)]) rfl ?_
          try dsimp only at hq_39
          refine lv_istore_n (lv' := [(1, .int (iz z_40)), (4, .int (iz k)), (3, .int (iz bv)), (2, .int (iz tv)), (0, .ref (o 15))]) hx hb dX5_joinGathered_96 rfl hl (by decide) rfl (fun ls hl => ?_)
          refine lv_aload_n hx hb dX5_joinGathered_97 rfl (lv_at hl 4 rfl) ?_
          refine va_get (D := (dC, dI)) (ci := 5) (v := .ref (o 13)) (C := RX5) (T := TX5) (N := 16) hx hb hts kt_X5 hown hK hP 0 rfl rfl 8 (by decide) (kx_word hG kq_19_xouts_2 rfl) (fun _ h9 => h9) rfl dX5_joinGathered_98 ?_
          refine lv_iload hx hb dX5_joinGathered_101 (lv_at hl 1 rfl) ?_
          have hPc := hP.sub (ws' := (sU cI 1600 (o 13) (o 4) (o 5) (o 6) (r_27 4) (r_27 5) (r_27 6) (n_28 4) (n_28 5) (n_28 6) (z_29 4) (z_29 5) (z_29 6) (F_30 4) (F_30 5) (F_30 6))) [10, 11, 12, 13, 14, 15, 16] rfl
          refine xk_pure (va_runV (As := [.int (iz k)]) (rest := []) ⟨hx, hb, hml, hown, hts⟩ (x_sto l dC dI cI cB cE 1600 (o 13) (o 4) (o 5) (o 6) (r_27 4) (r_27 5) (r_27 6) (n_28 4) (n_28 5) (n_28 6) (z_29 4) (z_29 5) (z_29 6) (F_30 4) (F_30 5) (F_30 6) k H.size (by omega) (hok35.2.2.1 4) (by omega) (hok35.2.2.1 5) (by omega) (hok35.2.2.1 6) (by omega) (by omega)) (cwV 1 hts (kx_gV kq_19_xouts_9 kq_15_xspan_64 kq_15_xspan_65 kq_15_xspan_53 kq_15_xspan_66 rfl) rfl rfl rfl (by decide +kernel) ⟨Nat.le_of_ble_eq_true rfl, Nat.le_of_ble_eq_true rfl⟩) ⟨pPre_blind, va_recv hK hPc (ci := 3) (q0 := 0) rfl rfl, pPre_give hPc hK hG⟩ rfl rfl hl.1 rfl (lv_room (Nat.le_of_ble_eq_true rfl)) dX5_joinGathered_103 ⟨show (cv + dn_25) + 0 ≤ 250 from (by omega), show (sv + dm_26) + 0 ≤ 110000 from (by omega)⟩) hS (fun z_42 locs hq_41 hS => ?_)
          refine W.eq (g2 := F0 m 106 ls [.int (iz z_42)]) rfl ?_
          try dsimp only at hq_41
          refine lv_istore_n (lv' := [(2, .int (iz z_42)), (1, .int (iz z_40)), (4, .int (iz k)), (3, .int (iz bv)), (0, .ref (o 15))]) hx hb dX5_joinGathered_106 rfl hl (by decide) rfl (fun ls hl => ?_)
          refine lv_aload_n hx hb dX5_joinGathered_107 rfl (lv_at hl 4 rfl) ?_
          refine va_get (D := (dC, dI)) (ci := 5) (v := .ref (o 13)) (C := RX5) (T := TX5) (N := 16) hx hb hts kt_X5 hown hK hP 0 rfl rfl 8 (by decide) (kx_word hG kq_19_xouts_2 rfl) (fun _ h9 => h9) rfl dX5_joinGathered_108 ?_
          refine lv_iload hx hb dX5_joinGathered_111 (lv_at hl 2 rfl) ?_
          have hPc := hP.sub (ws' := (sU cI 1600 (o 13) (o 4) (o 5) (o 6) (r_27 4) (r_27 5) (r_27 6) (n_28 4) (n_28 5) (n_28 6) (z_29 4) (z_29 5) (z_29 6) (F_30 4) (F_30 5) (F_30 6))) [10, 11, 12, 13, 14, 15, 16] rfl
          refine xk_pure (va_runV (As := [.int (iz k)]) (rest := []) ⟨hx, hb, hml, hown, hts⟩ (x_stold l dC dI cI cB cE 1600 (o 13) (o 4) (o 5) (o 6) (r_27 4) (r_27 5) (r_27 6) (n_28 4) (n_28 5) (n_28 6) (z_29 4) (z_29 5) (z_29 6) (F_30 4) (F_30 5) (F_30 6) k H.size (by omega) (hok35.2.2.1 4) (by omega) (hok35.2.2.1 5) (by omega) (hok35.2.2.1 6) (by omega) (by omega)) (cwV 1 hts (kx_gV kq_19_xouts_10 kq_15_xspan_68 kq_15_xspan_69 kq_15_xspan_53 kq_15_xspan_70 rfl) rfl rfl rfl (by decide +kernel) ⟨Nat.le_of_ble_eq_true rfl, Nat.le_of_ble_eq_true rfl⟩) ⟨pPre_blind, va_recv hK hPc (ci := 3) (q0 := 0) rfl rfl, pPre_give hPc hK hG⟩ rfl rfl hl.1 rfl (lv_room (Nat.le_of_ble_eq_true rfl)) dX5_joinGathered_113 ⟨show (cv + dn_25) + 0 ≤ 250 from (by omega), show (sv + dm_26) + 0 ≤ 110000 from (by omega)⟩) hS (fun z_44 locs hq_43 hS => ?_)
          refine W.eq (g2 := F0 m 116 ls [.int (iz z_44)]) rfl ?_
          try dsimp only at hq_43
          refine lv_istore_n (lv' := [(3, .int (iz z_44)), (2, .int (iz z_42)), (1, .int (iz z_40)), (4, .int (iz k)), (0, .ref (o 15))]) hx hb dX5_joinGathered_116 rfl hl (by decide) rfl (fun ls hl => ?_)
          refine lv_iinc (v := iz (k + 1)) (lv' := [(4, .int (iz (k + 1))), (3, .int (iz z_44)), (2, .int (iz z_42)), (1, .int (iz z_40)), (0, .ref (o 15))]) hx hb dX5_joinGathered_117 hl (k := 3) rfl (iz_add k 1) (by decide) rfl (fun ls hl => ?_)
          refine lv_goto (tgt := 9) hx hb dX5_joinGathered_120 (by decide) ?_
          exact ih9 z_40 z_42 z_44 (k + 1) r_27 n_28 z_29 F_30 Er_31 En_32 Ez_33 EF_34 (cv + dn_25) (sv + dm_26) ⟨⟨hok35, hfr35, hPE35, hef35⟩, ⟨by omega, by omega⟩, (show z_29 12 = z 12 by omega), by omega, by omega, by omega, by omega⟩ (by omega) _ _ hP hD hS ls (lv_sub hl [0, 1, 2, 3, 4] rfl)
        · skip
          refine lv_aload_n hx hb dX5_joinGathered_26 rfl (lv_at hl 4 rfl) ?_
          refine va_get (D := (dC, dI)) (ci := 5) (v := .ref (o 13)) (C := RX5) (T := TX5) (N := 16) hx hb hts kt_X5 hown hK hP 0 rfl rfl 8 (by decide) (kx_word hG kq_19_xouts_2 rfl) (fun _ h9 => h9) rfl dX5_joinGathered_27 ?_
          refine lv_iload hx hb dX5_joinGathered_30 (lv_at hl 0 rfl) ?_
          have hPc := hP.sub (ws' := (sU cI 1600 (o 13) (o 4) (o 5) (o 6) (rL9 4) (rL9 5) (rL9 6) (nL9 4) (nL9 5) (nL9 6) (zL9 4) (zL9 5) (zL9 6) (FL9 4) (FL9 5) (FL9 6))) [10, 11, 12, 13, 14, 15, 16] rfl
          refine xk_pure (va_runV (As := [.int (iz k)]) (rest := []) ⟨hx, hb, hml, hown, hts⟩ (x_sfrom l dC dI cI cB cE 1600 (o 13) (o 4) (o 5) (o 6) (rL9 4) (rL9 5) (rL9 6) (nL9 4) (nL9 5) (nL9 6) (zL9 4) (zL9 5) (zL9 6) (FL9 4) (FL9 5) (FL9 6) k H.size (by omega) (hRLL9.1.2.2.1 4) (by omega) (hRLL9.1.2.2.1 5) (by omega) (hRLL9.1.2.2.1 6) (by omega) (by omega)) (cwV 1 hts (kx_gV kq_19_xouts_8 kq_15_xspan_56 kq_15_xspan_57 kq_15_xspan_53 kq_15_xspan_58 rfl) rfl rfl rfl (by decide +kernel) ⟨Nat.le_of_ble_eq_true rfl, Nat.le_of_ble_eq_true rfl⟩) ⟨pPre_blind, va_recv hK hPc (ci := 3) (q0 := 0) rfl rfl, pPre_give hPc hK hG⟩ rfl rfl hl.1 rfl (lv_room (Nat.le_of_ble_eq_true rfl)) dX5_joinGathered_32 ⟨show cv + 0 ≤ 250 from (by omega), show sv + 0 ≤ 110000 from (by omega)⟩) hS (fun z_46 locs hq_45 hS => ?_)
          refine W.eq (g2 := F0 m 35 ls [.int (iz z_46)]) rfl ?_
          try dsimp only at hq_45
          refine lv_iload_n hx hb dX5_joinGathered_35 rfl (lv_at hl 2 rfl) ?_
          refine lv_iconst (v := iz 1) hx hb dX5_joinGathered_36 (by decide) ?_
          refine ki_iadd hx hb dX5_joinGathered_37 ?_
          refine ki_any (fun z_47 hz_47a hz_47b => ?_)
          refine ki_icmp_gt (tgt := 80) hx hb dX5_joinGathered_38 (by decide) (by omega) (by omega) (by omega) (by omega) (fun c_48 => ?_) (fun c_48 => ?_)
          · skip
            refine lv_aload_n hx hb dX5_joinGathered_80 rfl (lv_at hl 4 rfl) ?_
            refine lv_iload_n hx hb dX5_joinGathered_81 rfl (lv_at hl 3 rfl) ?_
            refine lv_iload_n hx hb dX5_joinGathered_82 rfl (lv_at hl 2 rfl) ?_
            refine lv_iload_n hx hb dX5_joinGathered_83 rfl (lv_at hl 1 rfl) ?_
            have hxz_49 : -2147483648 ≤ zL9 12 ∧ zL9 12 < 2147483648 := hRLL9.1.2.2.2.1 12
            have hxG9 : xG N (zL9 12) G Eo := ⟨by omega, by omega, by omega, fun e9 h9 => hN4 e9 (by omega)⟩
            have hP : va_P (dC, dI) kxCl (xU cI cB cE o rL9 nL9 zL9 FL9 G (Eo 0 0) ++ eP cI N Eo ErL9 EnL9 EzL9 EFL9) H := hP
            have hD : va_D A (xU cI cB cE o rL9 nL9 zL9 FL9 G (Eo 0 0) ++ eP cI N Eo ErL9 EnL9 EzL9 EFL9) := hD
            have hFc := xw_free hD hS hA
            refine xk_call (va_runV (As := [.int (iz fv), .int (iz tv), .int (iz bv)]) (rest := []) ⟨hx, hb, hml, hown, hts⟩ (y_addLocators l dC dI cI cB cE o rL9 nL9 zL9 FL9 G N Eo ErL9 EnL9 EzL9 EFL9 fv tv bv H.size hRLL9.1 hxG9 hRLL9.2.2.1 (by omega) (by omega) (by omega) (by omega) (by omega)) (cwV 3 hts (kx_gV kq_19_xouts_4 kq_19_xouts_5 kq_19_xouts_6 kq_18_xrows_4 kq_19_xouts_7 rfl) rfl rfl rfl (by decide +kernel) ⟨Nat.le_of_ble_eq_true rfl, Nat.le_of_ble_eq_true rfl⟩) ⟨kx_blind, va_recv hK hP (ci := 5) (q0 := 0) rfl rfl, kx_give (ws := []) (tys := []) hP hD hK hG hZ hS hFc⟩ rfl rfl hl.1 rfl (lv_room (Nat.le_of_ble_eq_true rfl)) dX5_joinGathered_84 ⟨show cv + 150 ≤ 250 from (by omega), show sv + 60000 ≤ 110000 from (by omega)⟩) hS (fun q _ h => hFc q h) hFc (fun u dn_52 dm_53 t H locs ht hvm hq_50 hB hk1 hS => ?_)
            obtain ⟨r_54, n_55, z_56, F_57, Er_58, En_59, Ez_60, EF_61⟩ := u
            obtain ⟨hP, hK1, hD1⟩ := hB
            rw [ht] at hP
            have hD := hD1.weaken (fun _ q _ h => hFc _ h)
            obtain ⟨hR62, hC62, hq_50⟩ := hq_50
            have hok62 := hR62.1
            have hfr62 := hRLL9.2.1.tr (hR62.2.1.mono (S' := [7, 8, 9]) (T' := [7, 8, 9]) (by decide) (by decide))
            have hPE62 := hR62.2.2.1
            have hef62 := hRLL9.2.2.2.tr (hR62.2.2.2.mono (S' := []) (T' := []) (by decide) (by decide))
            have hz62 : z_56 12 = (zL9 12) := hR62.2.1.1 12 (by decide)
            have hkz62_4 : z_56 4 = z 4 := hfr62.1 4 (by decide)
            refine W.eq (g2 := F0 m 87 ls []) rfl ?_
            try dsimp only at hq_50
            refine lv_aload_n hx hb dX5_joinGathered_87 rfl (lv_at hl 4 rfl) ?_
            refine va_get (D := (dC, dI)) (ci := 5) (v := .ref (o 13)) (C := RX5) (T := TX5) (N := 16) hx hb hts kt_X5 hown hK hP 0 rfl rfl 8 (by decide) (kx_word hG kq_19_xouts_2 rfl) (fun _ h9 => h9) rfl dX5_joinGathered_88 ?_
            refine lv_iload hx hb dX5_joinGathered_91 (lv_at hl 0 rfl) ?_
            have hxi_63 : 0 ≤ z_56 4 ∧ z_56 4 ≤ ((n_55 4 : Nat) : Int) ∧ ((n_55 4 : Nat) : Int) ≤ 1600 := hok62.1 4 (by decide)
            have hxi_64 : 0 ≤ z_56 5 ∧ z_56 5 ≤ ((n_55 5 : Nat) : Int) ∧ ((n_55 5 : Nat) : Int) ≤ 1600 := hok62.1 5 (by decide)
            have hxi_65 : 0 ≤ z_56 6 ∧ z_56 6 ≤ ((n_55 6 : Nat) : Int) ∧ ((n_55 6 : Nat) : Int) ≤ 1600 := hok62.1 6 (by decide)
            have hPc := hP.sub (ws' := (sU cI 1600 (o 13) (o 4) (o 5) (o 6) (r_54 4) (r_54 5) (r_54 6) (n_55 4) (n_55 5) (n_55 6) (z_56 4) (z_56 5) (z_56 6) (F_57 4) (F_57 5) (F_57 6))) [10, 11, 12, 13, 14, 15, 16] rfl
            refine xk_pure (va_runV (As := [.int (iz k)]) (rest := []) ⟨hx, hb, hml, hown, hts⟩ (x_sfrom l dC dI cI cB cE 1600 (o 13) (o 4) (o 5) (o 6) (r_54 4) (r_54 5) (r_54 6) (n_55 4) (n_55 5) (n_55 6) (z_56 4) (z_56 5) (z_56 6) (F_57 4) (F_57 5) (F_57 6) k H.size (by omega) (hok62.2.2.1 4) (by omega) (hok62.2.2.1 5) (by omega) (hok62.2.2.1 6) (by omega) (by omega)) (cwV 1 hts (kx_gV kq_19_xouts_8 kq_15_xspan_56 kq_15_xspan_57 kq_15_xspan_53 kq_15_xspan_58 rfl) rfl rfl rfl (by decide +kernel) ⟨Nat.le_of_ble_eq_true rfl, Nat.le_of_ble_eq_true rfl⟩) ⟨pPre_blind, va_recv hK hPc (ci := 3) (q0 := 0) rfl rfl, pPre_give hPc hK hG⟩ rfl rfl hl.1 rfl (lv_room (Nat.le_of_ble_eq_true rfl)) dX5_joinGathered_93 ⟨show (cv + dn_52) + 0 ≤ 250 from (by omega), show (sv + dm_53) + 0 ≤ 110000 from (by omega)⟩) hS (fun z_67 locs hq_66 hS => ?_)
            refine W.eq (g2 := F0 m 96 ls [.int (iz z_67)]) rfl ?_
            try dsimp only at hq_66
            refine lv_istore_n (lv' := [(1, .int (iz z_67)), (4, .int (iz k)), (3, .int (iz bv)), (2, .int (iz tv)), (0, .ref (o 15))]) hx hb dX5_joinGathered_96 rfl hl (by decide) rfl (fun ls hl => ?_)
            refine lv_aload_n hx hb dX5_joinGathered_97 rfl (lv_at hl 4 rfl) ?_
            refine va_get (D := (dC, dI)) (ci := 5) (v := .ref (o 13)) (C := RX5) (T := TX5) (N := 16) hx hb hts kt_X5 hown hK hP 0 rfl rfl 8 (by decide) (kx_word hG kq_19_xouts_2 rfl) (fun _ h9 => h9) rfl dX5_joinGathered_98 ?_
            refine lv_iload hx hb dX5_joinGathered_101 (lv_at hl 1 rfl) ?_
            have hPc := hP.sub (ws' := (sU cI 1600 (o 13) (o 4) (o 5) (o 6) (r_54 4) (r_54 5) (r_54 6) (n_55 4) (n_55 5) (n_55 6) (z_56 4) (z_56 5) (z_56 6) (F_57 4) (F_57 5) (F_57 6))) [10, 11, 12, 13, 14, 15, 16] rfl
            refine xk_pure (va_runV (As := [.int (iz k)]) (rest := []) ⟨hx, hb, hml, hown, hts⟩ (x_sto l dC dI cI cB cE 1600 (o 13) (o 4) (o 5) (o 6) (r_54 4) (r_54 5) (r_54 6) (n_55 4) (n_55 5) (n_55 6) (z_56 4) (z_56 5) (z_56 6) (F_57 4) (F_57 5) (F_57 6) k H.size (by omega) (hok62.2.2.1 4) (by omega) (hok62.2.2.1 5) (by omega) (hok62.2.2.1 6) (by omega) (by omega)) (cwV 1 hts (kx_gV kq_19_xouts_9 kq_15_xspan_64 kq_15_xspan_65 kq_15_xspan_53 kq_15_xspan_66 rfl) rfl rfl rfl (by decide +kernel) ⟨Nat.le_of_ble_eq_true rfl, Nat.le_of_ble_eq_true rfl⟩) ⟨pPre_blind, va_recv hK hPc (ci := 3) (q0 := 0) rfl rfl, pPre_give hPc hK hG⟩ rfl rfl hl.1 rfl (lv_room (Nat.le_of_ble_eq_true rfl)) dX5_joinGathered_103 ⟨show (cv + dn_52) + 0 ≤ 250 from (by omega), show (sv + dm_53) + 0 ≤ 110000 from (by omega)⟩) hS (fun z_69 locs hq_68 hS => ?_)
            refine W.eq (g2 := F0 m 106 ls [.int (iz z_69)]) rfl ?_
            try dsimp only at hq_68
            refine lv_istore_n (lv' := [(2, .int (iz z_69)), (1, .int (iz z_67)), (4, .int (iz k)), (3, .int (iz bv)), (0, .ref (o 15))]) hx hb dX5_joinGathered_106 rfl hl (by decide) rfl (fun ls hl => ?_)
            refine lv_aload_n hx hb dX5_joinGathered_107 rfl (lv_at hl 4 rfl) ?_
            refine va_get (D := (dC, dI)) (ci := 5) (v := .ref (o 13)) (C := RX5) (T := TX5) (N := 16) hx hb hts kt_X5 hown hK hP 0 rfl rfl 8 (by decide) (kx_word hG kq_19_xouts_2 rfl) (fun _ h9 => h9) rfl dX5_joinGathered_108 ?_
            refine lv_iload hx hb dX5_joinGathered_111 (lv_at hl 2 rfl) ?_
            have hPc := hP.sub (ws' := (sU cI 1600 (o 13) (o 4) (o 5) (o 6) (r_54 4) (r_54 5) (r_54 6) (n_55 4) (n_55 5) (n_55 6) (z_56 4) (z_56 5) (z_56 6) (F_57 4) (F_57 5) (F_57 6))) [10, 11, 12, 13, 14, 15, 16] rfl
            refine xk_pure (va_runV (As := [.int (iz k)]) (rest := []) ⟨hx, hb, hml, hown, hts⟩ (x_stold l dC dI cI cB cE 1600 (o 13) (o 4) (o 5) (o 6) (r_54 4) (r_54 5) (r_54 6) (n_55 4) (n_55 5) (n_55 6) (z_56 4) (z_56 5) (z_56 6) (F_57 4) (F_57 5) (F_57 6) k H.size (by omega) (hok62.2.2.1 4) (by omega) (hok62.2.2.1 5) (by omega) (hok62.2.2.1 6) (by omega) (by omega)) (cwV 1 hts (kx_gV kq_19_xouts_10 kq_15_xspan_68 kq_15_xspan_69 kq_15_xspan_53 kq_15_xspan_70 rfl) rfl rfl rfl (by decide +kernel) ⟨Nat.le_of_ble_eq_true rfl, Nat.le_of_ble_eq_true rfl⟩) ⟨pPre_blind, va_recv hK hPc (ci := 3) (q0 := 0) rfl rfl, pPre_give hPc hK hG⟩ rfl rfl hl.1 rfl (lv_room (Nat.le_of_ble_eq_true rfl)) dX5_joinGathered_113 ⟨show (cv + dn_52) + 0 ≤ 250 from (by omega), show (sv + dm_53) + 0 ≤ 110000 from (by omega)⟩) hS (fun z_71 locs hq_70 hS => ?_)
            refine W.eq (g2 := F0 m 116 ls [.int (iz z_71)]) rfl ?_
            try dsimp only at hq_70
            refine lv_istore_n (lv' := [(3, .int (iz z_71)), (2, .int (iz z_69)), (1, .int (iz z_67)), (4, .int (iz k)), (0, .ref (o 15))]) hx hb dX5_joinGathered_116 rfl hl (by decide) rfl (fun ls hl => ?_)
            refine lv_iinc (v := iz (k + 1)) (lv' := [(4, .int (iz (k + 1))), (3, .int (iz z_71)), (2, .int (iz z_69)), (1, .int (iz z_67)), (0, .ref (o 15))]) hx hb dX5_joinGathered_117 hl (k := 3) rfl (iz_add k 1) (by decide) rfl (fun ls hl => ?_)
            refine lv_goto (tgt := 9) hx hb dX5_joinGathered_120 (by decide) ?_
            exact ih9 z_67 z_69 z_71 (k + 1) r_54 n_55 z_56 F_57 Er_58 En_59 Ez_60 EF_61 (cv + dn_52) (sv + dm_53) ⟨⟨hok62, hfr62, hPE62, hef62⟩, ⟨by omega, by omega⟩, (show z_56 12 = z 12 by omega), by omega, by omega, by omega, by omega⟩ (by omega) _ _ hP hD hS ls (lv_sub hl [0, 1, 2, 3, 4] rfl)
          · skip
            refine lv_iload_n hx hb dX5_joinGathered_41 rfl (lv_at hl 2 rfl) ?_
            refine lv_aload_n hx hb dX5_joinGathered_42 rfl (lv_at hl 4 rfl) ?_
            refine va_get (D := (dC, dI)) (ci := 5) (v := .ref (o 13)) (C := RX5) (T := TX5) (N := 16) hx hb hts kt_X5 hown hK hP 0 rfl rfl 8 (by decide) (kx_word hG kq_19_xouts_2 rfl) (fun _ h9 => h9) rfl dX5_joinGathered_43 ?_
            refine lv_iload hx hb dX5_joinGathered_46 (lv_at hl 0 rfl) ?_
            have hPc := hP.sub (ws' := (sU cI 1600 (o 13) (o 4) (o 5) (o 6) (rL9 4) (rL9 5) (rL9 6) (nL9 4) (nL9 5) (nL9 6) (zL9 4) (zL9 5) (zL9 6) (FL9 4) (FL9 5) (FL9 6))) [10, 11, 12, 13, 14, 15, 16] rfl
            refine xk_pure (va_runV (As := [.int (iz k)]) (rest := [.int (iz tv)]) ⟨hx, hb, hml, hown, hts⟩ (x_sto l dC dI cI cB cE 1600 (o 13) (o 4) (o 5) (o 6) (rL9 4) (rL9 5) (rL9 6) (nL9 4) (nL9 5) (nL9 6) (zL9 4) (zL9 5) (zL9 6) (FL9 4) (FL9 5) (FL9 6) k H.size (by omega) (hRLL9.1.2.2.1 4) (by omega) (hRLL9.1.2.2.1 5) (by omega) (hRLL9.1.2.2.1 6) (by omega) (by omega)) (cwV 1 hts (kx_gV kq_19_xouts_9 kq_15_xspan_64 kq_15_xspan_65 kq_15_xspan_53 kq_15_xspan_66 rfl) rfl rfl rfl (by decide +kernel) ⟨Nat.le_of_ble_eq_true rfl, Nat.le_of_ble_eq_true rfl⟩) ⟨pPre_blind, va_recv hK hPc (ci := 3) (q0 := 0) rfl rfl, pPre_give hPc hK hG⟩ rfl rfl hl.1 rfl (lv_room (Nat.le_of_ble_eq_true rfl)) dX5_joinGathered_48 ⟨show cv + 0 ≤ 250 from (by omega), show sv + 0 ≤ 110000 from (by omega)⟩) hS (fun z_73 locs hq_72 hS => ?_)
            refine W.eq (g2 := F0 m 51 ls [.int (iz z_73), .int (iz tv)]) rfl ?_
            try dsimp only at hq_72
            refine va_mmax hx hb (by rw [hml]; exact hl.1.symm) hown (kx_word hG kq_19_xouts_11 rfl) (kx_word hG kq_19_xouts_12 rfl) (kx_word hG kq_14_xadd_3 rfl) (kx_word hG kq_19_xouts_13 rfl) (Nat.le_of_ble_eq_true rfl) (Nat.le_of_ble_eq_true rfl) (show cv ≤ 250 from (by omega)) (show sv ≤ 110000 from (by omega)) dX5_joinGathered_51 ?_
            refine ki_is (z := max tv z_73) (iz_max (by omega) (by omega) (by omega) (by omega)) ?_
            obtain ⟨z_74, ez_74⟩ : ∃ x : Int, x = max tv z_73 := ⟨_, rfl⟩
            rw [← ez_74]
            refine lv_istore_n (lv' := [(2, .int (iz z_74)), (4, .int (iz k)), (3, .int (iz bv)), (1, .int (iz fv)), (0, .ref (o 15))]) hx hb dX5_joinGathered_54 rfl hl (by decide) rfl (fun ls hl => ?_)
            refine lv_iload_n hx hb dX5_joinGathered_55 rfl (lv_at hl 2 rfl) ?_
            refine ki_if_ne (tgt := 71) hx hb dX5_joinGathered_56 (by decide) (by omega) (by omega) (fun c_75 => ?_) (fun c_75 => ?_)
            · skip
              refine lv_iconst (v := iz 1) hx hb dX5_joinGathered_71 (by decide) ?_
              refine lv_goto (tgt := 76) hx hb dX5_joinGathered_72 (by decide) ?_
              refine lv_istore_n (lv' := [(3, .int (iz 1)), (2, .int (iz z_74)), (4, .int (iz k)), (1, .int (iz fv)), (0, .ref (o 15))]) hx hb dX5_joinGathered_76 rfl hl (by decide) rfl (fun ls hl => ?_)
              refine lv_goto (tgt := 117) hx hb dX5_joinGathered_77 (by decide) ?_
              refine lv_iinc (v := iz (k + 1)) (lv' := [(4, .int (iz (k + 1))), (3, .int (iz 1)), (2, .int (iz z_74)), (1, .int (iz fv)), (0, .ref (o 15))]) hx hb dX5_joinGathered_117 hl (k := 2) rfl (iz_add k 1) (by decide) rfl (fun ls hl => ?_)
              refine lv_goto (tgt := 9) hx hb dX5_joinGathered_120 (by decide) ?_
              exact ih9 fv z_74 1 (k + 1) rL9 nL9 zL9 FL9 ErL9 EnL9 EzL9 EFL9 cv sv ⟨⟨hRLL9.1, hRLL9.2.1, hRLL9.2.2.1, hRLL9.2.2.2⟩, ⟨by omega, by omega⟩, (show zL9 12 = z 12 by omega), by omega, by omega, by omega, by omega⟩ (by omega) _ _ hP hD hS ls (lv_sub hl [0, 1, 2, 3, 4] rfl)
            · skip
              refine lv_aload_n hx hb dX5_joinGathered_59 rfl (lv_at hl 4 rfl) ?_
              refine va_get (D := (dC, dI)) (ci := 5) (v := .ref (o 13)) (C := RX5) (T := TX5) (N := 16) hx hb hts kt_X5 hown hK hP 0 rfl rfl 8 (by decide) (kx_word hG kq_19_xouts_2 rfl) (fun _ h9 => h9) rfl dX5_joinGathered_60 ?_
              refine lv_iload hx hb dX5_joinGathered_63 (lv_at hl 1 rfl) ?_
              have hPc := hP.sub (ws' := (sU cI 1600 (o 13) (o 4) (o 5) (o 6) (rL9 4) (rL9 5) (rL9 6) (nL9 4) (nL9 5) (nL9 6) (zL9 4) (zL9 5) (zL9 6) (FL9 4) (FL9 5) (FL9 6))) [10, 11, 12, 13, 14, 15, 16] rfl
              refine xk_pure (va_runV (As := [.int (iz k)]) (rest := []) ⟨hx, hb, hml, hown, hts⟩ (x_stold l dC dI cI cB cE 1600 (o 13) (o 4) (o 5) (o 6) (rL9 4) (rL9 5) (rL9 6) (nL9 4) (nL9 5) (nL9 6) (zL9 4) (zL9 5) (zL9 6) (FL9 4) (FL9 5) (FL9 6) k H.size (by omega) (hRLL9.1.2.2.1 4) (by omega) (hRLL9.1.2.2.1 5) (by omega) (hRLL9.1.2.2.1 6) (by omega) (by omega)) (cwV 1 hts (kx_gV kq_19_xouts_10 kq_15_xspan_68 kq_15_xspan_69 kq_15_xspan_53 kq_15_xspan_70 rfl) rfl rfl rfl (by decide +kernel) ⟨Nat.le_of_ble_eq_true rfl, Nat.le_of_ble_eq_true rfl⟩) ⟨pPre_blind, va_recv hK hPc (ci := 3) (q0 := 0) rfl rfl, pPre_give hPc hK hG⟩ rfl rfl hl.1 rfl (lv_room (Nat.le_of_ble_eq_true rfl)) dX5_joinGathered_65 ⟨show cv + 0 ≤ 250 from (by omega), show sv + 0 ≤ 110000 from (by omega)⟩) hS (fun z_77 locs hq_76 hS => ?_)
              refine W.eq (g2 := F0 m 68 ls [.int (iz z_77)]) rfl ?_
              try dsimp only at hq_76
              refine ki_if_eq (tgt := 75) hx hb dX5_joinGathered_68 (by decide) (by omega) (by omega) (fun c_78 => ?_) (fun c_78 => ?_)
              · skip
                refine lv_iconst (v := iz 0) hx hb dX5_joinGathered_75 (by decide) ?_
                refine lv_istore_n (lv' := [(3, .int (iz 0)), (2, .int (iz z_74)), (4, .int (iz k)), (1, .int (iz fv)), (0, .ref (o 15))]) hx hb dX5_joinGathered_76 rfl hl (by decide) rfl (fun ls hl => ?_)
                refine lv_goto (tgt := 117) hx hb dX5_joinGathered_77 (by decide) ?_
                refine lv_iinc (v := iz (k + 1)) (lv' := [(4, .int (iz (k + 1))), (3, .int (iz 0)), (2, .int (iz z_74)), (1, .int (iz fv)), (0, .ref (o 15))]) hx hb dX5_joinGathered_117 hl (k := 2) rfl (iz_add k 1) (by decide) rfl (fun ls hl => ?_)
                refine lv_goto (tgt := 9) hx hb dX5_joinGathered_120 (by decide) ?_
                exact ih9 fv z_74 0 (k + 1) rL9 nL9 zL9 FL9 ErL9 EnL9 EzL9 EFL9 cv sv ⟨⟨hRLL9.1, hRLL9.2.1, hRLL9.2.2.1, hRLL9.2.2.2⟩, ⟨by omega, by omega⟩, (show zL9 12 = z 12 by omega), by omega, by omega, by omega, by omega⟩ (by omega) _ _ hP hD hS ls (lv_sub hl [0, 1, 2, 3, 4] rfl)
              · skip
                refine lv_iconst (v := iz 1) hx hb dX5_joinGathered_71 (by decide) ?_
                refine lv_goto (tgt := 76) hx hb dX5_joinGathered_72 (by decide) ?_
                refine lv_istore_n (lv' := [(3, .int (iz 1)), (2, .int (iz z_74)), (4, .int (iz k)), (1, .int (iz fv)), (0, .ref (o 15))]) hx hb dX5_joinGathered_76 rfl hl (by decide) rfl (fun ls hl => ?_)
                refine lv_goto (tgt := 117) hx hb dX5_joinGathered_77 (by decide) ?_
                refine lv_iinc (v := iz (k + 1)) (lv' := [(4, .int (iz (k + 1))), (3, .int (iz 1)), (2, .int (iz z_74)), (1, .int (iz fv)), (0, .ref (o 15))]) hx hb dX5_joinGathered_117 hl (k := 2) rfl (iz_add k 1) (by decide) rfl (fun ls hl => ?_)
                refine lv_goto (tgt := 9) hx hb dX5_joinGathered_120 (by decide) ?_
                exact ih9 fv z_74 1 (k + 1) rL9 nL9 zL9 FL9 ErL9 EnL9 EzL9 EFL9 cv sv ⟨⟨hRLL9.1, hRLL9.2.1, hRLL9.2.2.1, hRLL9.2.2.2⟩, ⟨by omega, by omega⟩, (show zL9 12 = z 12 by omega), by omega, by omega, by omega, by omega⟩ (by omega) _ _ hP hD hS ls (lv_sub hl [0, 1, 2, 3, 4] rfl)
  exact lp9 _ 0 0 0 0 r n z F Er En Ez EF 0 0 ⟨⟨hok, hfr, hPE, hef⟩, ⟨by omega, by omega⟩, (show z 12 = z 12 by omega), by omega, by omega, by omega, by omega⟩ (Nat.lt_succ_self _) _ _ hP hD hS ls (lv_sub hl [0, 1, 2, 3, 4] rfl)
set_option maxHeartbeats 4000000 in
set_option maxRecDepth 100000 in
theorem y_findLocators (l : Launch) (dC : Nat → ClassId) (dI : Nat → Nat → Nat) (cI cB cE : ClassId) (o r n : Nat → Nat) (z : Nat → Int) (F : Nat → Int → Int) (G : Nat → Option Nat) (N : Nat) (Eo Er En : Nat → Nat → Nat) (Ez : Nat → Nat → Int) (EF : Nat → Nat → Int → Int) (p0 : Int) (sz : Nat) (hok : xOk n z F) (hxG : xG N (z 12) G Eo) (hPE : eA N En Ez EF) (hp01 : -2147483648 ≤ p0) (hp02 : p0 < 2147483648) : Met l yX5_findLocators [.code yX5_findLocators cX5_findLocators 3 none] ({ frames := 6, cells := 400, slots := 170000, locals := 173 }) (va_Pc [.ref (o 15), .int (iz p0)] (kx_Pre dC dI (xU cI cB cE o r n z F G (Eo 0 0) ++ eP cI N Eo Er En Ez EF) (xT cI cB cE) sz)) (xQ (fun _ : (Nat → Nat) × (Nat → Nat) × (Nat → Int) × (Nat → Int → Int) × (Nat → Nat → Nat) × (Nat → Nat → Nat) × (Nat → Nat → Int) × (Nat → Nat → Int → Int) => none) (fun (u : (Nat → Nat) × (Nat → Nat) × (Nat → Int) × (Nat → Int → Int) × (Nat → Nat → Nat) × (Nat → Nat → Nat) × (Nat → Nat → Int) × (Nat → Nat → Int → Int)) (dn dm : Nat) => match u with | (r', n', z', F', Er', En', Ez', EF') => xR [4, 5, 6, 7, 8, 9, 16] [4, 5, 6, 7, 8, 9] [] [] N z F En Ez EF n' z' F' En' Ez' EF' ∧ (dn + xg n' ≤ xg n + 0 ∧ dm + xp n' ≤ xp n + 0) ∧ (True)) (fun u t => kx_At dC dI (va_A (xU cI cB cE o r n z F G (Eo 0 0) ++ eP cI N Eo Er En Ez EF) sz) ((fun u : (Nat → Nat) × (Nat → Nat) × (Nat → Int) × (Nat → Int → Int) × (Nat → Nat → Nat) × (Nat → Nat → Nat) × (Nat → Nat → Int) × (Nat → Nat → Int → Int) => match u with | (r', n', z', F', Er', En', Ez', EF') => (xU cI cB cE o r' n' z' F' G (Eo 0 0) ++ eP cI N Eo Er' En' Ez' EF')) u) (xT cI cB cE) t) (va_A (xU cI cB cE o r n z F G (Eo 0 0) ++ eP cI N Eo Er En Ez EF) sz)) 400 170000 (va_A (xU cI cB cE o r n z F G (Eo 0 0) ++ eP cI N Eo Er En Ez EF) sz) := by
  refine Met.ofW (cc := cX5_findLocators) (maxL := 3) (ret := none) (by decide) rfl ?_
  intro p e s m args below meth c s₁ B hml hv
  obtain ⟨rfl, hsz, hP, hK, hD0, hG, hZ⟩ := hv
  have hx := B.exec
  have hb := B.bytes
  have hr := B.returns
  have hts := kx_hts (a := ([.ref (o 15), .int (iz p0)] : List Value).toArray) hG
  have hown : s.vm.findClass RX5 = some m.cls := findClass_of_methodNamed B.named
  have hlocks := B.notSynchronized
  subst hsz
  have hD := hD0.self (sz := s.heap.size)
  generalize hAe : va_A (xU cI cB cE o r n z F G (Eo 0 0) ++ eP cI N Eo Er En Ez EF) s.heap.size = A at hD hZ ⊢
  have hA : ∀ q : Nat, s.heap.size ≤ q → A q := fun q h => by rw [← hAe]; exact Or.inr h
  have hS : va_S A s.heap s.heap [] := va_S.rf
  have hl := lv_entry ([.ref (o 15), .int (iz p0)]) (n := 3) (Nat.le_of_ble_eq_true rfl)
  rw [lg_entry_eq]
  generalize (lg_sl ([.ref (o 15), .int (iz p0)]) ++ List.replicate (3 - (lg_sl ([.ref (o 15), .int (iz p0)])).length) Slot.unset).toArray = ls at hl ⊢
  obtain ⟨hN1, hN2, hN3, hN4⟩ := hxG
  have hef : eFr [] [] En Ez EF En Ez EF := eFr.rf
  have hfr : xFr [4, 5, 6, 7, 8, 9, 16] [4, 5, 6, 7, 8, 9] z F z F := xFr.rf
  have hxgl := xg_le n
  have hxpl := xp_le n
  have hl : lv_has ls 3 [(0, .ref (o 15)), (1, .int (iz p0))] := hl
  generalize hQe : MQ below (xQ (fun _ : (Nat → Nat) × (Nat → Nat) × (Nat → Int) × (Nat → Int → Int) × (Nat → Nat → Nat) × (Nat → Nat → Nat) × (Nat → Nat → Int) × (Nat → Nat → Int → Int) => none) (fun (u : (Nat → Nat) × (Nat → Nat) × (Nat → Int) × (Nat → Int → Int) × (Nat → Nat → Nat) × (Nat → Nat → Nat) × (Nat → Nat → Int) × (Nat → Nat → Int → Int)) (dn dm : Nat) => match u with | (r', n', z', F', Er', En', Ez', EF') => xR [4, 5, 6, 7, 8, 9, 16] [4, 5, 6, 7, 8, 9] [] [] N z F En Ez EF n' z' F' En' Ez' EF' ∧ (dn + xg n' ≤ xg n + 0 ∧ dm + xp n' ≤ xp n + 0) ∧ (True)) (fun u t => kx_At dC dI A ((fun u : (Nat → Nat) × (Nat → Nat) × (Nat → Int) × (Nat → Int → Int) × (Nat → Nat → Nat) × (Nat → Nat → Nat) × (Nat → Nat → Int) × (Nat → Nat → Int → Int) => match u with | (r', n', z', F', Er', En', Ez', EF') => (xU cI cB cE o r' n' z' F' G (Eo 0 0) ++ eP cI N Eo Er' En' Ez' EF')) u) (xT cI cB cE) t) A) ([.ref (o 15), .int (iz p0)] : List Value).toArray s 400 170000 A = QQ
  refine lv_aload_n hx hb dX5_findLocators_0 rfl (lv_at hl 0 rfl) ?_
  have hxz_1 : -2147483648 ≤ z 16 ∧ z 16 < 2147483648 := hok.2.2.2.1 16
  refine va_get (D := (dC, dI)) (ci := 5) (v := .int (iz (z 16))) (C := RX5) (T := TX5) (N := 16) hx hb hts kt_X5 hown hK hP 0 rfl rfl 10 (by decide) (kx_word hG kq_18_xrows_26 rfl) (fun _ h9 => h9) rfl dX5_findLocators_1 ?_
  refine lv_iload_n hx hb dX5_findLocators_4 rfl (lv_at hl 1 rfl) ?_
  refine ki_icmp_ne (tgt := 9) hx hb dX5_findLocators_5 (by decide) (by omega) (by omega) (by omega) (by omega) (fun c_2 => ?_) (fun c_2 => ?_)
  · skip
    refine lv_aload_n hx hb dX5_findLocators_9 rfl (lv_at hl 0 rfl) ?_
    refine va_get (D := (dC, dI)) (ci := 5) (v := .ref (o 13)) (C := RX5) (T := TX5) (N := 16) hx hb hts kt_X5 hown hK hP 0 rfl rfl 8 (by decide) (kx_word hG kq_19_xouts_2 rfl) (fun _ h9 => h9) rfl dX5_findLocators_10 ?_
    have hxi_3 : 0 ≤ z 4 ∧ z 4 ≤ ((n 4 : Nat) : Int) ∧ ((n 4 : Nat) : Int) ≤ 1600 := hok.1 4 (by decide)
    have hxi_4 : 0 ≤ z 5 ∧ z 5 ≤ ((n 5 : Nat) : Int) ∧ ((n 5 : Nat) : Int) ≤ 1600 := hok.1 5 (by decide)
    have hxi_5 : 0 ≤ z 6 ∧ z 6 ≤ ((n 6 : Nat) : Int) ∧ ((n 6 : Nat) : Int) ≤ 1600 := hok.1 6 (by decide)
    have hPc := hP.sub (ws' := (sU cI 1600 (o 13) (o 4) (o 5) (o 6) (r 4) (r 5) (r 6) (n 4) (n 5) (n 6) (z 4) (z 5) (z 6) (F 4) (F 5) (F 6))) [10, 11, 12, 13, 14, 15, 16] rfl
    have hDc := hD.sub (ws' := (sU cI 1600 (o 13) (o 4) (o 5) (o 6) (r 4) (r 5) (r 6) (n 4) (n 5) (n 6) (z 4) (z 5) (z 6) (F 4) (F 5) (F 6))) [10, 11, 12, 13, 14, 15, 16] (by decide) rfl
    have hFc := va_free (wc := (sU cI 1600 (o 13) (o 4) (o 5) (o 6) (r 4) (r 5) (r 6) (n 4) (n 5) (n 6) (z 4) (z 5) (z 6) (F 4) (F 5) (F 6))) hD hS hA [10, 11, 12, 13, 14, 15, 16] rfl
    refine xk_call (va_runV (As := []) (rest := []) ⟨hx, hb, hml, hown, hts⟩ (x_sclear l dC dI cI cB cE 1600 (o 13) (o 4) (o 5) (o 6) (r 4) (r 5) (r 6) (n 4) (n 5) (n 6) (z 4) (z 5) (z 6) (F 4) (F 5) (F 6)  s.heap.size ) (cwV 0 hts (kx_gV kq_19_xouts_14 kq_19_xouts_15 kq_19_xouts_16 kq_15_xspan_53 kq_19_xouts_17 rfl) rfl rfl rfl (by decide +kernel) ⟨Nat.le_of_ble_eq_true rfl, Nat.le_of_ble_eq_true rfl⟩) ⟨kx_blind, va_recv hK hPc (ci := 3) (q0 := 0) rfl rfl, kx_give (ws := []) (tys := []) hPc hDc hK hG hZ hS hFc⟩ rfl rfl hl.1 rfl (lv_room (Nat.le_of_ble_eq_true rfl)) dX5_findLocators_13 ⟨show 0 + 0 ≤ 400 from (by omega), show 0 + 0 ≤ 170000 from (by omega)⟩) hS (fun q _ h => hFc q h) hFc (fun u dn_7 dm_8 t H locs ht hvm hq_6 hB hk1 hS => ?_)
    obtain ⟨z1_9, z2_10, z3_11⟩ := u
    obtain ⟨hP1, hK1, hD1⟩ := hB
    rw [ht] at hP1
    obtain ⟨hP, hD⟩ := xj_pool (wr := [(o 15, .inr (5, [.ref (o 16), .ref (Eo 0 0), .int (iz (z 12)), .int (iz (z 13)), .int (iz (z 14)), .ref (o 0), .ref (o 1), .int (iz (z 15)), .ref (o 13), .ref (o 14), .int (iz (z 16)), .ref (o 2), .ref (o 12), .ref (o 3), .ref (o 10), .ref (o 11)])), (o 16, .inl (cE, 80, .inr (.inr (.inr (.inr G))))), (o 0, .inr (1, [.int (iz 80), .ref (r 0), .int (iz (z 0))])), (r 0, .inl (cI, n 0, .inl (iA (F 0)))), (o 1, .inr (1, [.int (iz 80), .ref (r 1), .int (iz (z 1))])), (r 1, .inl (cI, n 1, .inl (iA (F 1)))), (o 2, .inr (1, [.int (iz 80), .ref (r 2), .int (iz (z 2))])), (r 2, .inl (cI, n 2, .inl (iA (F 2)))), (o 3, .inr (1, [.int (iz 80), .ref (r 3), .int (iz (z 3))])), (r 3, .inl (cI, n 3, .inl (iA (F 3)))), (o 14, .inr (3, [.ref (o 7), .ref (o 8), .ref (o 9)])), (o 7, .inr (1, [.int (iz 1600), .ref (r 7), .int (iz (z 7))])), (r 7, .inl (cI, n 7, .inl (iA (F 7)))), (o 8, .inr (1, [.int (iz 1600), .ref (r 8), .int (iz (z 8))])), (r 8, .inl (cI, n 8, .inl (iA (F 8)))), (o 9, .inr (1, [.int (iz 1600), .ref (r 9), .int (iz (z 9))])), (r 9, .inl (cI, n 9, .inl (iA (F 9)))), (o 12, .inr (4, [.int (iz (z 17)), .int (iz (z 18)), .int (iz (z 19)), .int (iz (z 20)), .int (iz (z 21))])), (o 10, .inr (2, [.ref (r 10), .int (iz (z 10)), .int (iz (z 22))])), (r 10, .inl (cB, n 10, .inl (iA (F 10)))), (o 11, .inr (2, [.ref (r 11), .int (iz (z 11)), .int (iz (z 23))])), (r 11, .inl (cB, n 11, .inl (iA (F 11))))]) (w1 := (sU cI 1600 (o 13) (o 4) (o 5) (o 6) (r 4) (r 5) (r 6) (n 4) (n 5) (n 6) z1_9 z2_10 z3_11 (F 4) (F 5) (F 6))) (ws' := (xU cI cB cE o r n (va_up (va_up (va_up z 4 z1_9) 5 z2_10) 6 z3_11) F G (Eo 0 0))) hP hD [10, 11, 12, 13, 14, 15, 16] [0, 1, 2, 3, 4, 5, 6, 7, 8, 9, 17, 18, 19, 20, 21, 22, 23, 24, 25, 26, 27, 28] [0, 1, 2, 3, 4, 5, 6, 7, 8, 9, 22, 23, 24, 25, 26, 27, 28, 10, 11, 12, 13, 14, 15, 16, 17, 18, 19, 20, 21] rfl rfl (by decide) (by decide) hk1 hFc hP1 hD1 rfl (by decide)
    refine W.eq (g2 := F0 m 16 ls []) rfl ?_
    try dsimp only at hq_6
    obtain ⟨hd12, hm12, hx12, hy12, hz12⟩ := hq_6
    subst hd12
    subst hm12
    refine lv_iconst (v := iz 0) hx hb dX5_findLocators_16 (by decide) ?_
    refine lv_istore_n (lv' := [(2, .int (iz 0)), (0, .ref (o 15)), (1, .int (iz p0))]) hx hb dX5_findLocators_17 rfl hl (by decide) rfl (fun ls hl => ?_)
    have hok13 : xOk (va_up (va_up (va_up n 4 (n 4)) 5 (n 5)) 6 (n 6)) (va_up (va_up (va_up z 4 z1_9) 5 z2_10) 6 z3_11) (va_up (va_up (va_up F 4 (F 4)) 5 (F 5)) 6 (F 6)) := (((hok.i 4 (by decide) (show 0 ≤ z1_9 ∧ z1_9 ≤ ((n 4 : Nat) : Int) ∧ ((n 4 : Nat) : Int) ≤ 1600 by omega) (hok.2.2.1 4)).i 5 (by decide) (show 0 ≤ z2_10 ∧ z2_10 ≤ ((n 5 : Nat) : Int) ∧ ((n 5 : Nat) : Int) ≤ 1600 by omega) (hok.2.2.1 5)).i 6 (by decide) (show 0 ≤ z3_11 ∧ z3_11 ≤ ((n 6 : Nat) : Int) ∧ ((n 6 : Nat) : Int) ≤ 1600 by omega) (hok.2.2.1 6))
    have hfr13 : xFr [4, 5, 6, 7, 8, 9, 16] [4, 5, 6, 7, 8, 9] z F (va_up (va_up (va_up z 4 z1_9) 5 z2_10) 6 z3_11) (va_up (va_up (va_up F 4 (F 4)) 5 (F 5)) 6 (F 6)) := ((((((hfr.uz 4 (by decide) _).uz 5 (by decide) _).uz 6 (by decide) _).uf 4 (by decide) _).uf 5 (by decide) _).uf 6 (by decide) _)
    have hcg13 : (0) + xg (va_up (va_up (va_up n 4 (n 4)) 5 (n 5)) 6 (n 6)) ≤ xg n := by unfold xg; simp (decide := true) only [va_ev, ↓reduceIte]; omega
    have hcp13 : (0) + xp (va_up (va_up (va_up n 4 (n 4)) 5 (n 5)) 6 (n 6)) ≤ xp n := by unfold xp; simp (decide := true) only [va_ev, ↓reduceIte]; omega
    have lp18 : ∀ (n0 : Nat) (k : Int) (rL18 : Nat → Nat) (nL18 : Nat → Nat) (zL18 : Nat → Int) (FL18 : Nat → Int → Int) (ErL18 : Nat → Nat → Nat) (EnL18 : Nat → Nat → Nat) (EzL18 : Nat → Nat → Int) (EFL18 : Nat → Nat → Int → Int) (cv : Nat) (sv : Nat), ((xR [4, 5, 6, 7, 8, 9, 16] [4, 5, 6, 7, 8, 9] [] [] N z F En Ez EF nL18 zL18 FL18 EnL18 EzL18 EFL18) ∧ (cv + xg nL18 ≤ xg n + (0) ∧ sv + xp nL18 ≤ xp n + (0)) ∧ (zL18 12 = z 12) ∧ (0 ≤ k ∧ k ≤ 79)) → (z 12 - k).toNat < n0 → ∀ (H : Heap) (locs : List Loc), va_P (dC, dI) kxCl ((xU cI cB cE o rL18 nL18 zL18 FL18 G (Eo 0 0)) ++ (eP cI N Eo ErL18 EnL18 EzL18 EFL18)) H → va_D A ((xU cI cB cE o rL18 nL18 zL18 FL18 G (Eo 0 0)) ++ (eP cI N Eo ErL18 EnL18 EzL18 EFL18)) → va_S A s.heap H locs → ∀ ls : Array Slot, lv_has ls 3 [(2, .int (iz k)), (0, .ref (o 15)), (1, .int (iz p0))] → W p l e (headSpec [.code yX5_findLocators cX5_findLocators 3 none] ({ frames := 6, cells := 400, slots := 170000, locals := 173 })).room s m ([.ref (o 15), .int (iz p0)] : List Value).toArray below meth c H locs cv sv QQ (F0 m 18 ls []) := by
      intro n0
      induction n0 with
      | zero => intro k rL18 nL18 zL18 FL18 ErL18 EnL18 EzL18 EFL18 cv sv hinv hm0; exact absurd hm0 (Nat.not_lt_zero _)
      | succ n0 ih18 =>
        intro k rL18 nL18 zL18 FL18 ErL18 EnL18 EzL18 EFL18 cv sv hinv hm0 H locs hP hD hS ls hl
        obtain ⟨hRLL18, hCLL18, hZLL18, hk⟩ := hinv
        refine lv_iload_n hx hb dX5_findLocators_18 rfl (lv_at hl 0 rfl) ?_
        refine lv_aload_n hx hb dX5_findLocators_19 rfl (lv_at hl 1 rfl) ?_
        have hxz_14 : -2147483648 ≤ zL18 12 ∧ zL18 12 < 2147483648 := hRLL18.1.2.2.2.1 12
        refine va_get (D := (dC, dI)) (ci := 5) (v := .int (iz (zL18 12))) (C := RX5) (T := TX5) (N := 16) hx hb hts kt_X5 hown hK hP 0 rfl rfl 2 (by decide) (kx_word hG kq_18_xrows_0 rfl) (fun _ h9 => h9) rfl dX5_findLocators_20 ?_
        refine ki_icmp_ge (tgt := 56) hx hb dX5_findLocators_23 (by decide) (by omega) (by omega) (by omega) (by omega) (fun c_15 => ?_) (fun c_15 => ?_)
        · skip
          refine lv_aload_n hx hb dX5_findLocators_56 rfl (lv_at hl 1 rfl) ?_
          refine va_get (D := (dC, dI)) (ci := 5) (v := .ref (o 14)) (C := RX5) (T := TX5) (N := 16) hx hb hts kt_X5 hown hK hP 0 rfl rfl 9 (by decide) (kx_word hG kq_19_xouts_0 rfl) (fun _ h9 => h9) rfl dX5_findLocators_57 ?_
          have hxi_16 : 0 ≤ zL18 7 ∧ zL18 7 ≤ ((nL18 7 : Nat) : Int) ∧ ((nL18 7 : Nat) : Int) ≤ 1600 := hRLL18.1.1 7 (by decide)
          have hxi_17 : 0 ≤ zL18 8 ∧ zL18 8 ≤ ((nL18 8 : Nat) : Int) ∧ ((nL18 8 : Nat) : Int) ≤ 1600 := hRLL18.1.1 8 (by decide)
          have hxi_18 : 0 ≤ zL18 9 ∧ zL18 9 ≤ ((nL18 9 : Nat) : Int) ∧ ((nL18 9 : Nat) : Int) ≤ 1600 := hRLL18.1.1 9 (by decide)
          have hPc := hP.sub (ws' := (sU cI 1600 (o 14) (o 7) (o 8) (o 9) (rL18 7) (rL18 8) (rL18 9) (nL18 7) (nL18 8) (nL18 9) (zL18 7) (zL18 8) (zL18 9) (FL18 7) (FL18 8) (FL18 9))) [17, 18, 19, 20, 21, 22, 23] rfl
          have hDc := hD.sub (ws' := (sU cI 1600 (o 14) (o 7) (o 8) (o 9) (rL18 7) (rL18 8) (rL18 9) (nL18 7) (nL18 8) (nL18 9) (zL18 7) (zL18 8) (zL18 9) (FL18 7) (FL18 8) (FL18 9))) [17, 18, 19, 20, 21, 22, 23] (by decide) rfl
          have hFc := va_free (wc := (sU cI 1600 (o 14) (o 7) (o 8) (o 9) (rL18 7) (rL18 8) (rL18 9) (nL18 7) (nL18 8) (nL18 9) (zL18 7) (zL18 8) (zL18 9) (FL18 7) (FL18 8) (FL18 9))) hD hS hA [17, 18, 19, 20, 21, 22, 23] rfl
          refine xk_call (va_runV (As := []) (rest := []) ⟨hx, hb, hml, hown, hts⟩ (x_sclear l dC dI cI cB cE 1600 (o 14) (o 7) (o 8) (o 9) (rL18 7) (rL18 8) (rL18 9) (nL18 7) (nL18 8) (nL18 9) (zL18 7) (zL18 8) (zL18 9) (FL18 7) (FL18 8) (FL18 9)  H.size ) (cwV 0 hts (kx_gV kq_19_xouts_14 kq_19_xouts_15 kq_19_xouts_16 kq_15_xspan_53 kq_19_xouts_17 rfl) rfl rfl rfl (by decide +kernel) ⟨Nat.le_of_ble_eq_true rfl, Nat.le_of_ble_eq_true rfl⟩) ⟨kx_blind, va_recv hK hPc (ci := 3) (q0 := 0) rfl rfl, kx_give (ws := []) (tys := []) hPc hDc hK hG hZ hS hFc⟩ rfl rfl hl.1 rfl (lv_room (Nat.le_of_ble_eq_true rfl)) dX5_findLocators_60 ⟨show cv + 0 ≤ 400 from (by omega), show sv + 0 ≤ 170000 from (by omega)⟩) hS (fun q _ h => hFc q h) hFc (fun u dn_20 dm_21 t H locs ht hvm hq_19 hB hk1 hS => ?_)
          obtain ⟨z1_22, z2_23, z3_24⟩ := u
          obtain ⟨hP1, hK1, hD1⟩ := hB
          rw [ht] at hP1
          obtain ⟨hP, hD⟩ := xj_pool (wr := [(o 15, .inr (5, [.ref (o 16), .ref (Eo 0 0), .int (iz (zL18 12)), .int (iz (zL18 13)), .int (iz (zL18 14)), .ref (o 0), .ref (o 1), .int (iz (zL18 15)), .ref (o 13), .ref (o 14), .int (iz (zL18 16)), .ref (o 2), .ref (o 12), .ref (o 3), .ref (o 10), .ref (o 11)])), (o 16, .inl (cE, 80, .inr (.inr (.inr (.inr G))))), (o 0, .inr (1, [.int (iz 80), .ref (rL18 0), .int (iz (zL18 0))])), (rL18 0, .inl (cI, nL18 0, .inl (iA (FL18 0)))), (o 1, .inr (1, [.int (iz 80), .ref (rL18 1), .int (iz (zL18 1))])), (rL18 1, .inl (cI, nL18 1, .inl (iA (FL18 1)))), (o 2, .inr (1, [.int (iz 80), .ref (rL18 2), .int (iz (zL18 2))])), (rL18 2, .inl (cI, nL18 2, .inl (iA (FL18 2)))), (o 3, .inr (1, [.int (iz 80), .ref (rL18 3), .int (iz (zL18 3))])), (rL18 3, .inl (cI, nL18 3, .inl (iA (FL18 3)))), (o 13, .inr (3, [.ref (o 4), .ref (o 5), .ref (o 6)])), (o 4, .inr (1, [.int (iz 1600), .ref (rL18 4), .int (iz (zL18 4))])), (rL18 4, .inl (cI, nL18 4, .inl (iA (FL18 4)))), (o 5, .inr (1, [.int (iz 1600), .ref (rL18 5), .int (iz (zL18 5))])), (rL18 5, .inl (cI, nL18 5, .inl (iA (FL18 5)))), (o 6, .inr (1, [.int (iz 1600), .ref (rL18 6), .int (iz (zL18 6))])), (rL18 6, .inl (cI, nL18 6, .inl (iA (FL18 6)))), (o 12, .inr (4, [.int (iz (zL18 17)), .int (iz (zL18 18)), .int (iz (zL18 19)), .int (iz (zL18 20)), .int (iz (zL18 21))])), (o 10, .inr (2, [.ref (rL18 10), .int (iz (zL18 10)), .int (iz (zL18 22))])), (rL18 10, .inl (cB, nL18 10, .inl (iA (FL18 10)))), (o 11, .inr (2, [.ref (rL18 11), .int (iz (zL18 11)), .int (iz (zL18 23))])), (rL18 11, .inl (cB, nL18 11, .inl (iA (FL18 11))))]) (w1 := (sU cI 1600 (o 14) (o 7) (o 8) (o 9) (rL18 7) (rL18 8) (rL18 9) (nL18 7) (nL18 8) (nL18 9) z1_22 z2_23 z3_24 (FL18 7) (FL18 8) (FL18 9))) (ws' := (xU cI cB cE o rL18 nL18 (va_up (va_up (va_up zL18 7 z1_22) 8 z2_23) 9 z3_24) FL18 G (Eo 0 0))) hP hD [17, 18, 19, 20, 21, 22, 23] [0, 1, 2, 3, 4, 5, 6, 7, 8, 9, 10, 11, 12, 13, 14, 15, 16, 24, 25, 26, 27, 28] [0, 1, 2, 3, 4, 5, 6, 7, 8, 9, 10, 11, 12, 13, 14, 15, 16, 22, 23, 24, 25, 26, 27, 28, 17, 18, 19, 20, 21] rfl rfl (by decide) (by decide) hk1 hFc hP1 hD1 rfl (by decide)
          refine W.eq (g2 := F0 m 63 ls []) rfl ?_
          try dsimp only at hq_19
          obtain ⟨hd25, hm25, hx25, hy25, hz25⟩ := hq_19
          subst hd25
          subst hm25
          refine lv_aload_n hx hb dX5_findLocators_63 rfl (lv_at hl 1 rfl) ?_
          have hok26 : xOk (va_up (va_up (va_up nL18 7 (nL18 7)) 8 (nL18 8)) 9 (nL18 9)) (va_up (va_up (va_up zL18 7 z1_22) 8 z2_23) 9 z3_24) (va_up (va_up (va_up FL18 7 (FL18 7)) 8 (FL18 8)) 9 (FL18 9)) := (((hRLL18.1.i 7 (by decide) (show 0 ≤ z1_22 ∧ z1_22 ≤ ((nL18 7 : Nat) : Int) ∧ ((nL18 7 : Nat) : Int) ≤ 1600 by omega) (hRLL18.1.2.2.1 7)).i 8 (by decide) (show 0 ≤ z2_23 ∧ z2_23 ≤ ((nL18 8 : Nat) : Int) ∧ ((nL18 8 : Nat) : Int) ≤ 1600 by omega) (hRLL18.1.2.2.1 8)).i 9 (by decide) (show 0 ≤ z3_24 ∧ z3_24 ≤ ((nL18 9 : Nat) : Int) ∧ ((nL18 9 : Nat) : Int) ≤ 1600 by omega) (hRLL18.1.2.2.1 9))
          have hfr26 : xFr [4, 5, 6, 7, 8, 9, 16] [4, 5, 6, 7, 8, 9] z F (va_up (va_up (va_up zL18 7 z1_22) 8 z2_23) 9 z3_24) (va_up (va_up (va_up FL18 7 (FL18 7)) 8 (FL18 8)) 9 (FL18 9)) := ((((((hRLL18.2.1.uz 7 (by decide) _).uz 8 (by decide) _).uz 9 (by decide) _).uf 7 (by decide) _).uf 8 (by decide) _).uf 9 (by decide) _)
          have hcg26 : (0) + xg (va_up (va_up (va_up nL18 7 (nL18 7)) 8 (nL18 8)) 9 (nL18 9)) ≤ xg nL18 := by unfold xg; simp (decide := true) only [va_ev, ↓reduceIte]; omega
          have hcp26 : (0) + xp (va_up (va_up (va_up nL18 7 (nL18 7)) 8 (nL18 8)) 9 (nL18 9)) ≤ xp nL18 := by unfold xp; simp (decide := true) only [va_ev, ↓reduceIte]; omega
          have hxG9 : xG N (zL18 12) G Eo := ⟨by omega, by omega, by omega, fun e9 h9 => hN4 e9 (by omega)⟩
          have hP : va_P (dC, dI) kxCl (xU cI cB cE o rL18 (va_up (va_up (va_up nL18 7 (nL18 7)) 8 (nL18 8)) 9 (nL18 9)) (va_up (va_up (va_up zL18 7 z1_22) 8 z2_23) 9 z3_24) (va_up (va_up (va_up FL18 7 (FL18 7)) 8 (FL18 8)) 9 (FL18 9)) G (Eo 0 0) ++ eP cI N Eo ErL18 EnL18 EzL18 EFL18) H := hP
          have hD : va_D A (xU cI cB cE o rL18 (va_up (va_up (va_up nL18 7 (nL18 7)) 8 (nL18 8)) 9 (nL18 9)) (va_up (va_up (va_up zL18 7 z1_22) 8 z2_23) 9 z3_24) (va_up (va_up (va_up FL18 7 (FL18 7)) 8 (FL18 8)) 9 (FL18 9)) G (Eo 0 0) ++ eP cI N Eo ErL18 EnL18 EzL18 EFL18) := hD
          have hFc := xw_free hD hS hA
          refine xk_call (va_runV (As := []) (rest := []) ⟨hx, hb, hml, hown, hts⟩ (y_joinGathered l dC dI cI cB cE o rL18 (va_up (va_up (va_up nL18 7 (nL18 7)) 8 (nL18 8)) 9 (nL18 9)) (va_up (va_up (va_up zL18 7 z1_22) 8 z2_23) 9 z3_24) (va_up (va_up (va_up FL18 7 (FL18 7)) 8 (FL18 8)) 9 (FL18 9)) G N Eo ErL18 EnL18 EzL18 EFL18  H.size hok26 hxG9 hRLL18.2.2.1 ) (cwV 0 hts (kx_gV kq_19_xouts_18 kq_19_xouts_19 kq_19_xouts_20 kq_18_xrows_4 kq_19_xouts_21 rfl) rfl rfl rfl (by decide +kernel) ⟨Nat.le_of_ble_eq_true rfl, Nat.le_of_ble_eq_true rfl⟩) ⟨kx_blind, va_recv hK hP (ci := 5) (q0 := 0) rfl rfl, kx_give (ws := []) (tys := []) hP hD hK hG hZ hS hFc⟩ rfl rfl hl.1 rfl (lv_room (Nat.le_of_ble_eq_true rfl)) dX5_findLocators_64 ⟨show (cv + 0) + 250 ≤ 400 from (by omega), show (sv + 0) + 110000 ≤ 170000 from (by omega)⟩) hS (fun q _ h => hFc q h) hFc (fun u dn_29 dm_30 t H locs ht hvm hq_27 hB hk1 hS => ?_)
          obtain ⟨r_31, n_32, z_33, F_34, Er_35, En_36, Ez_37, EF_38⟩ := u
          obtain ⟨hP, hK1, hD1⟩ := hB
          rw [ht] at hP
          have hD := hD1.weaken (fun _ q _ h => hFc _ h)
          obtain ⟨hR39, hC39, hq_27⟩ := hq_27
          have hok39 := hR39.1
          have hfr39 := hfr26.tr (hR39.2.1.mono (S' := [4, 5, 6, 7, 8, 9, 16]) (T' := [4, 5, 6, 7, 8, 9]) (by decide) (by decide))
          have hPE39 := hR39.2.2.1
          have hef39 := hRLL18.2.2.2.tr (hR39.2.2.2.mono (S' := []) (T' := []) (by decide) (by decide))
          have hz39 : z_33 12 = (zL18 12) := hR39.2.1.1 12 (by decide)
          refine W.eq (g2 := F0 m 67 ls []) rfl ?_
          try dsimp only at hq_27
          try simp (decide := true) only [va_ev, ↓reduceIte] at hq_27
          refine lv_aload_n hx hb dX5_findLocators_67 rfl (lv_at hl 1 rfl) ?_
          refine lv_iload_n hx hb dX5_findLocators_68 rfl (lv_at hl 2 rfl) ?_
          refine va_put (D := (dC, dI)) (ci := 5) (v := .int (iz p0)) (ty := .int) (C := RX5) (T := TX5) (N := 16) hx hb hts kt_X5 tyX5 tyX5_ok nmX5 hown hK hP hD hS 0 rfl rfl 10 (by decide) (kx_word hG kq_18_xrows_26 rfl) (fun _ h9 => h9) rfl (by decide +kernel) rfl rfl (Nat.le_of_ble_eq_true rfl) dX5_findLocators_69 (fun H locs hP hD hS => ?_)
          have hP : va_P (dC, dI) kxCl ((xU cI cB cE o r_31 n_32 (va_up z_33 16 p0) F_34 G (Eo 0 0)) ++ (eP cI N Eo Er_35 En_36 Ez_37 EF_38)) H := hP
          have hD : va_D A ((xU cI cB cE o r_31 n_32 (va_up z_33 16 p0) F_34 G (Eo 0 0)) ++ (eP cI N Eo Er_35 En_36 Ez_37 EF_38)) := hD
          have hxz_40 : -2147483648 ≤ z_33 16 ∧ z_33 16 < 2147483648 := hok39.2.2.2.1 16
          have hok41 : xOk n_32 (va_up z_33 16 p0) F_34 := (hok39.s 16 (by decide) (show -2147483648 ≤ p0 ∧ p0 < 2147483648 by omega) (by omega))
          have hfr41 : xFr [4, 5, 6, 7, 8, 9, 16] [4, 5, 6, 7, 8, 9] z F (va_up z_33 16 p0) F_34 := (hfr39.uz 16 (by decide) _)
          rw [← hQe]
          exact xk_vret (ov := (fun _ : (Nat → Nat) × (Nat → Nat) × (Nat → Int) × (Nat → Int → Int) × (Nat → Nat → Nat) × (Nat → Nat → Nat) × (Nat → Nat → Int) × (Nat → Nat → Int → Int) => none)) (post := (fun (u : (Nat → Nat) × (Nat → Nat) × (Nat → Int) × (Nat → Int → Int) × (Nat → Nat → Nat) × (Nat → Nat → Nat) × (Nat → Nat → Int) × (Nat → Nat → Int → Int)) (dn dm : Nat) => match u with | (r', n', z', F', Er', En', Ez', EF') => xR [4, 5, 6, 7, 8, 9, 16] [4, 5, 6, 7, 8, 9] [] [] N z F En Ez EF n' z' F' En' Ez' EF' ∧ (dn + xg n' ≤ xg n + 0 ∧ dm + xp n' ≤ xp n + 0) ∧ (True))) (ws := (fun u : (Nat → Nat) × (Nat → Nat) × (Nat → Int) × (Nat → Int → Int) × (Nat → Nat → Nat) × (Nat → Nat → Nat) × (Nat → Nat → Int) × (Nat → Nat → Int → Int) => match u with | (r', n', z', F', Er', En', Ez', EF') => (xU cI cB cE o r' n' z' F' G (Eo 0 0) ++ eP cI N Eo Er' En' Ez' EF'))) (tys := xT cI cB cE) (r_31, n_32, (va_up z_33 16 p0), F_34, Er_35, En_36, Ez_37, EF_38) hx hb hr hlocks rfl hP hD hK hS dX5_findLocators_72 (fun dn dm hdn hdm => ⟨⟨hok41, hfr41, hPE39, hef39⟩, ⟨by omega, by omega⟩, trivial⟩) (by omega) (by omega)
        · skip
          refine lv_aload_n hx hb dX5_findLocators_26 rfl (lv_at hl 1 rfl) ?_
          refine lv_iload_n hx hb dX5_findLocators_27 rfl (lv_at hl 0 rfl) ?_
          have hxG9 : xG N (zL18 12) G Eo := ⟨by omega, by omega, by omega, fun e9 h9 => hN4 e9 (by omega)⟩
          have hP : va_P (dC, dI) kxCl (xU cI cB cE o rL18 nL18 zL18 FL18 G (Eo 0 0) ++ eP cI N Eo ErL18 EnL18 EzL18 EFL18) H := hP
          refine xk_pure (va_runV (As := [.int (iz k)]) (rest := []) ⟨hx, hb, hml, hown, hts⟩ (y_firstOf l dC dI cI cB cE o rL18 nL18 zL18 FL18 G N Eo ErL18 EnL18 EzL18 EFL18 k H.size hRLL18.1 hxG9 hRLL18.2.2.1 (by omega) (by omega)) (cwV 1 hts (kx_gV kq_18_xrows_15 kq_18_xrows_16 kq_18_xrows_17 kq_18_xrows_4 kq_18_xrows_18 rfl) rfl rfl rfl (by decide +kernel) ⟨Nat.le_of_ble_eq_true rfl, Nat.le_of_ble_eq_true rfl⟩) ⟨pPre_blind, va_recv hK hP (ci := 5) (q0 := 0) rfl rfl, pPre_give hP hK hG⟩ rfl rfl hl.1 rfl (lv_room (Nat.le_of_ble_eq_true rfl)) dX5_findLocators_28 ⟨show cv + 0 ≤ 400 from (by omega), show sv + 0 ≤ 170000 from (by omega)⟩) hS (fun z_43 locs hq_42 hS => ?_)
          refine W.eq (g2 := F0 m 31 ls [.int (iz z_43)]) rfl ?_
          try dsimp only at hq_42
          refine lv_iload_n hx hb dX5_findLocators_31 rfl (lv_at hl 2 rfl) ?_
          refine ki_icmp_ne (tgt := 50) hx hb dX5_findLocators_32 (by decide) (by omega) (by omega) (by omega) (by omega) (fun c_44 => ?_) (fun c_44 => ?_)
          · skip
            refine lv_iinc (v := iz (k + 1)) (lv' := [(2, .int (iz (k + 1))), (0, .ref (o 15)), (1, .int (iz p0))]) hx hb dX5_findLocators_50 hl (k := 0) rfl (iz_add k 1) (by decide) rfl (fun ls hl => ?_)
            refine lv_goto (tgt := 18) hx hb dX5_findLocators_53 (by decide) ?_
            exact ih18 (k + 1) rL18 nL18 zL18 FL18 ErL18 EnL18 EzL18 EFL18 cv sv ⟨⟨hRLL18.1, hRLL18.2.1, hRLL18.2.2.1, hRLL18.2.2.2⟩, ⟨by omega, by omega⟩, (show zL18 12 = z 12 by omega), by omega⟩ (by omega) _ _ hP hD hS ls (lv_sub hl [0, 1, 2] rfl)
          · skip
            refine lv_aload_n hx hb dX5_findLocators_35 rfl (lv_at hl 1 rfl) ?_
            refine va_get (D := (dC, dI)) (ci := 5) (v := .ref (o 13)) (C := RX5) (T := TX5) (N := 16) hx hb hts kt_X5 hown hK hP 0 rfl rfl 8 (by decide) (kx_word hG kq_19_xouts_2 rfl) (fun _ h9 => h9) rfl dX5_findLocators_36 ?_
            refine lv_aload_n hx hb dX5_findLocators_39 rfl (lv_at hl 1 rfl) ?_
            refine lv_iload_n hx hb dX5_findLocators_40 rfl (lv_at hl 0 rfl) ?_
            have hxG9 : xG N (zL18 12) G Eo := ⟨by omega, by omega, by omega, fun e9 h9 => hN4 e9 (by omega)⟩
            have hP : va_P (dC, dI) kxCl (xU cI cB cE o rL18 nL18 zL18 FL18 G (Eo 0 0) ++ eP cI N Eo ErL18 EnL18 EzL18 EFL18) H := hP
            refine xk_pure (va_runV (As := [.int (iz k)]) (rest := [.ref (o 13)]) ⟨hx, hb, hml, hown, hts⟩ (y_known l dC dI cI cB cE o rL18 nL18 zL18 FL18 G N Eo ErL18 EnL18 EzL18 EFL18 k H.size hRLL18.1 hxG9 hRLL18.2.2.1 (by omega) (by omega)) (cwV 1 hts (kx_gV kq_18_xrows_8 kq_18_xrows_9 kq_18_xrows_10 kq_18_xrows_4 kq_18_xrows_11 rfl) rfl rfl rfl (by decide +kernel) ⟨Nat.le_of_ble_eq_true rfl, Nat.le_of_ble_eq_true rfl⟩) ⟨pPre_blind, va_recv hK hP (ci := 5) (q0 := 0) rfl rfl, pPre_give hP hK hG⟩ rfl rfl hl.1 rfl (lv_room (Nat.le_of_ble_eq_true rfl)) dX5_findLocators_41 ⟨show cv + 0 ≤ 400 from (by omega), show sv + 0 ≤ 170000 from (by omega)⟩) hS (fun z_46 locs hq_45 hS => ?_)
            refine W.eq (g2 := F0 m 44 ls [.ref z_46.toNat, .ref (o 13)]) rfl ?_
            try dsimp only at hq_45
            obtain ⟨j47, hj47, ez47, hje47⟩ := hq_45
            subst ez47
            refine W.eq (g2 := F0 m 44 ls [.ref (Eo j47 0), .ref (o 13)]) rfl ?_
            have hP := eP_foc hj47 hP
            have hD := eD_foc hj47 hD
            refine va_getN (D := (dC, dI)) (ci := 0) (v := .ref (Eo j47 5)) (C := RX0) (T := TX0) (N := 12) hx hb hts kt_X0 hown hK hP 29 rfl rfl 5 (by decide) (va_Nw.use rfl (kx_nf hG kq_19_xouts_22)) (fun _ h9 => h9) rfl dX5_findLocators_44 ?_
            have hxi_48 : 0 ≤ zL18 4 ∧ zL18 4 ≤ ((nL18 4 : Nat) : Int) ∧ ((nL18 4 : Nat) : Int) ≤ 1600 := hRLL18.1.1 4 (by decide)
            have hxi_49 : 0 ≤ zL18 5 ∧ zL18 5 ≤ ((nL18 5 : Nat) : Int) ∧ ((nL18 5 : Nat) : Int) ≤ 1600 := hRLL18.1.1 5 (by decide)
            have hxi_50 : 0 ≤ zL18 6 ∧ zL18 6 ≤ ((nL18 6 : Nat) : Int) ∧ ((nL18 6 : Nat) : Int) ≤ 1600 := hRLL18.1.1 6 (by decide)
            have he_51 : 0 ≤ EzL18 j47 4 ∧ EzL18 j47 4 ≤ ((EnL18 j47 4 : Nat) : Int) ∧ ((EnL18 j47 4 : Nat) : Int) ≤ 20 := (hRLL18.2.2.1 j47 hj47).1 4 (by decide)
            have he_52 : 0 ≤ EzL18 j47 5 ∧ EzL18 j47 5 ≤ ((EnL18 j47 5 : Nat) : Int) ∧ ((EnL18 j47 5 : Nat) : Int) ≤ 20 := (hRLL18.2.2.1 j47 hj47).1 5 (by decide)
            have he_53 : 0 ≤ EzL18 j47 6 ∧ EzL18 j47 6 ≤ ((EnL18 j47 6 : Nat) : Int) ∧ ((EnL18 j47 6 : Nat) : Int) ≤ 20 := (hRLL18.2.2.1 j47 hj47).1 6 (by decide)
            have hPc := hP.sub (ws' := ((sU cI 1600 (o 13) (o 4) (o 5) (o 6) (rL18 4) (rL18 5) (rL18 6) (nL18 4) (nL18 5) (nL18 6) (zL18 4) (zL18 5) (zL18 6) (FL18 4) (FL18 5) (FL18 6)) ++ (sU cI 20 (Eo j47 5) (Eo j47 6) (Eo j47 7) (Eo j47 8) (ErL18 j47 4) (ErL18 j47 5) (ErL18 j47 6) (EnL18 j47 4) (EnL18 j47 5) (EnL18 j47 6) (EzL18 j47 4) (EzL18 j47 5) (EzL18 j47 6) (EFL18 j47 4) (EFL18 j47 5) (EFL18 j47 6)))) [10, 11, 12, 13, 14, 15, 16, 38, 39, 40, 41, 42, 43, 44] rfl
            have hDc := hD.sub (ws' := ((sU cI 1600 (o 13) (o 4) (o 5) (o 6) (rL18 4) (rL18 5) (rL18 6) (nL18 4) (nL18 5) (nL18 6) (zL18 4) (zL18 5) (zL18 6) (FL18 4) (FL18 5) (FL18 6)) ++ (sU cI 20 (Eo j47 5) (Eo j47 6) (Eo j47 7) (Eo j47 8) (ErL18 j47 4) (ErL18 j47 5) (ErL18 j47 6) (EnL18 j47 4) (EnL18 j47 5) (EnL18 j47 6) (EzL18 j47 4) (EzL18 j47 5) (EzL18 j47 6) (EFL18 j47 4) (EFL18 j47 5) (EFL18 j47 6)))) [10, 11, 12, 13, 14, 15, 16, 38, 39, 40, 41, 42, 43, 44] (by decide) rfl
            have hFc := va_free (wc := ((sU cI 1600 (o 13) (o 4) (o 5) (o 6) (rL18 4) (rL18 5) (rL18 6) (nL18 4) (nL18 5) (nL18 6) (zL18 4) (zL18 5) (zL18 6) (FL18 4) (FL18 5) (FL18 6)) ++ (sU cI 20 (Eo j47 5) (Eo j47 6) (Eo j47 7) (Eo j47 8) (ErL18 j47 4) (ErL18 j47 5) (ErL18 j47 6) (EnL18 j47 4) (EnL18 j47 5) (EnL18 j47 6) (EzL18 j47 4) (EzL18 j47 5) (EzL18 j47 6) (EFL18 j47 4) (EFL18 j47 5) (EFL18 j47 6)))) hD hS hA [10, 11, 12, 13, 14, 15, 16, 38, 39, 40, 41, 42, 43, 44] rfl
            refine xk_call (va_runV (As := [.ref (Eo j47 5)]) (rest := []) ⟨hx, hb, hml, hown, hts⟩ (x_sall l dC dI cI cB cE 1600 (o 13) (o 4) (o 5) (o 6) (rL18 4) (rL18 5) (rL18 6) (nL18 4) (nL18 5) (nL18 6) (zL18 4) (zL18 5) (zL18 6) (FL18 4) (FL18 5) (FL18 6) 20 (Eo j47 5) (Eo j47 6) (Eo j47 7) (Eo j47 8) (ErL18 j47 4) (ErL18 j47 5) (ErL18 j47 6) (EnL18 j47 4) (EnL18 j47 5) (EnL18 j47 6) (EzL18 j47 4) (EzL18 j47 5) (EzL18 j47 6) (EFL18 j47 4) (EFL18 j47 5) (EFL18 j47 6)  H.size (by omega) (hRLL18.1.2.2.1 4) (by omega) (hRLL18.1.2.2.1 5) (by omega) (hRLL18.1.2.2.1 6) (by omega) ((hRLL18.2.2.1 j47 hj47).2.1 4) (by omega) ((hRLL18.2.2.1 j47 hj47).2.1 5) (by omega) ((hRLL18.2.2.1 j47 hj47).2.1 6)) (cwV 1 hts (kx_gV kq_19_xouts_23 kq_19_xouts_24 kq_19_xouts_25 kq_15_xspan_53 kq_19_xouts_26 rfl) rfl rfl rfl (by decide +kernel) ⟨Nat.le_of_ble_eq_true rfl, Nat.le_of_ble_eq_true rfl⟩) ⟨kx_blind, va_recv hK hPc (ci := 3) (q0 := 0) rfl rfl, kx_give (ws := []) (tys := []) hPc hDc hK hG hZ hS hFc⟩ rfl rfl hl.1 rfl (lv_room (Nat.le_of_ble_eq_true rfl)) dX5_findLocators_47 ⟨show cv + 30 ≤ 400 from (by omega), show sv + 19200 ≤ 170000 from (by omega)⟩) hS (fun q _ h => hFc q h) hFc (fun u dn_55 dm_56 t H locs ht hvm hq_54 hB hk1 hS => ?_)
            obtain ⟨r1_57, n1_58, z1_59, F1_60, r2_61, n2_62, z2_63, F2_64, r3_65, n3_66, z3_67, F3_68⟩ := u
            obtain ⟨hP1, hK1, hD1⟩ := hB
            rw [ht] at hP1
            obtain ⟨hP, hD⟩ := xj_pool (wr := [(o 15, .inr (5, [.ref (o 16), .ref (Eo 0 0), .int (iz (zL18 12)), .int (iz (zL18 13)), .int (iz (zL18 14)), .ref (o 0), .ref (o 1), .int (iz (zL18 15)), .ref (o 13), .ref (o 14), .int (iz (zL18 16)), .ref (o 2), .ref (o 12), .ref (o 3), .ref (o 10), .ref (o 11)])), (o 16, .inl (cE, 80, .inr (.inr (.inr (.inr G))))), (o 0, .inr (1, [.int (iz 80), .ref (rL18 0), .int (iz (zL18 0))])), (rL18 0, .inl (cI, nL18 0, .inl (iA (FL18 0)))), (o 1, .inr (1, [.int (iz 80), .ref (rL18 1), .int (iz (zL18 1))])), (rL18 1, .inl (cI, nL18 1, .inl (iA (FL18 1)))), (o 2, .inr (1, [.int (iz 80), .ref (rL18 2), .int (iz (zL18 2))])), (rL18 2, .inl (cI, nL18 2, .inl (iA (FL18 2)))), (o 3, .inr (1, [.int (iz 80), .ref (rL18 3), .int (iz (zL18 3))])), (rL18 3, .inl (cI, nL18 3, .inl (iA (FL18 3)))), (o 14, .inr (3, [.ref (o 7), .ref (o 8), .ref (o 9)])), (o 7, .inr (1, [.int (iz 1600), .ref (rL18 7), .int (iz (zL18 7))])), (rL18 7, .inl (cI, nL18 7, .inl (iA (FL18 7)))), (o 8, .inr (1, [.int (iz 1600), .ref (rL18 8), .int (iz (zL18 8))])), (rL18 8, .inl (cI, nL18 8, .inl (iA (FL18 8)))), (o 9, .inr (1, [.int (iz 1600), .ref (rL18 9), .int (iz (zL18 9))])), (rL18 9, .inl (cI, nL18 9, .inl (iA (FL18 9)))), (o 12, .inr (4, [.int (iz (zL18 17)), .int (iz (zL18 18)), .int (iz (zL18 19)), .int (iz (zL18 20)), .int (iz (zL18 21))])), (o 10, .inr (2, [.ref (rL18 10), .int (iz (zL18 10)), .int (iz (zL18 22))])), (rL18 10, .inl (cB, nL18 10, .inl (iA (FL18 10)))), (o 11, .inr (2, [.ref (rL18 11), .int (iz (zL18 11)), .int (iz (zL18 23))])), (rL18 11, .inl (cB, nL18 11, .inl (iA (FL18 11)))), (Eo j47 0, .inr (0, [.int (iz (EzL18 j47 7)), .int (iz (EzL18 j47 8)), .ref (Eo j47 1), .ref (Eo j47 2), .ref (Eo j47 3), .ref (Eo j47 5), .ref (Eo j47 4), .int (iz (EzL18 j47 9)), .int (iz (EzL18 j47 10)), .int (iz (EzL18 j47 11)), .int (iz (EzL18 j47 12)), .int (iz (EzL18 j47 13))])), (Eo j47 1, .inr (1, [.int (iz 20), .ref (ErL18 j47 0), .int (iz (EzL18 j47 0))])), (ErL18 j47 0, .inl (cI, EnL18 j47 0, .inl (iA (EFL18 j47 0)))), (Eo j47 2, .inr (1, [.int (iz 20), .ref (ErL18 j47 1), .int (iz (EzL18 j47 1))])), (ErL18 j47 1, .inl (cI, EnL18 j47 1, .inl (iA (EFL18 j47 1)))), (Eo j47 3, .inr (1, [.int (iz 40), .ref (ErL18 j47 2), .int (iz (EzL18 j47 2))])), (ErL18 j47 2, .inl (cI, EnL18 j47 2, .inl (iA (EFL18 j47 2)))), (Eo j47 4, .inr (1, [.int (iz 5), .ref (ErL18 j47 3), .int (iz (EzL18 j47 3))])), (ErL18 j47 3, .inl (cI, EnL18 j47 3, .inl (iA (EFL18 j47 3))))]) (w1 := ((sU cI 1600 (o 13) (o 4) (o 5) (o 6) r1_57 r2_61 r3_65 n1_58 n2_62 n3_66 z1_59 z2_63 z3_67 F1_60 F2_64 F3_68) ++ (sU cI 20 (Eo j47 5) (Eo j47 6) (Eo j47 7) (Eo j47 8) (ErL18 j47 4) (ErL18 j47 5) (ErL18 j47 6) (EnL18 j47 4) (EnL18 j47 5) (EnL18 j47 6) (EzL18 j47 4) (EzL18 j47 5) (EzL18 j47 6) (EFL18 j47 4) (EFL18 j47 5) (EFL18 j47 6)))) (ws' := ((xU cI cB cE o (va_up (va_up (va_up rL18 4 r1_57) 5 r2_61) 6 r3_65) (va_up (va_up (va_up nL18 4 n1_58) 5 n2_62) 6 n3_66) (va_up (va_up (va_up zL18 4 z1_59) 5 z2_63) 6 z3_67) (va_up (va_up (va_up FL18 4 F1_60) 5 F2_64) 6 F3_68) G (Eo 0 0)) ++ (eU cI (Eo j47) (ErL18 j47) (EnL18 j47) (EzL18 j47) (EFL18 j47)))) hP hD [10, 11, 12, 13, 14, 15, 16, 38, 39, 40, 41, 42, 43, 44] [0, 1, 2, 3, 4, 5, 6, 7, 8, 9, 17, 18, 19, 20, 21, 22, 23, 24, 25, 26, 27, 28, 29, 30, 31, 32, 33, 34, 35, 36, 37] [0, 1, 2, 3, 4, 5, 6, 7, 8, 9, 31, 32, 33, 34, 35, 36, 37, 10, 11, 12, 13, 14, 15, 16, 17, 18, 19, 20, 21, 22, 23, 24, 25, 26, 27, 28, 29, 30, 38, 39, 40, 41, 42, 43, 44] rfl rfl (by decide) (by decide) hk1 hFc hP1 hD1 rfl (by decide)
            refine W.eq (g2 := F0 m 50 ls []) rfl ?_
            try dsimp only at hq_54
            obtain ⟨ha69, hb169, hb69, hb269, hc69, hb369, hd69⟩ := hq_54
            have hpg169 := psg_le 1600 (nL18 4)
            have hpj169 := psj_le (L := 1600) (by omega) (nL18 4)
            have hpg269 := psg_le 1600 (nL18 5)
            have hpj269 := psj_le (L := 1600) (by omega) (nL18 5)
            have hpg369 := psg_le 1600 (nL18 6)
            have hpj369 := psj_le (L := 1600) (by omega) (nL18 6)
            refine lv_iinc (v := iz (k + 1)) (lv' := [(2, .int (iz (k + 1))), (0, .ref (o 15)), (1, .int (iz p0))]) hx hb dX5_findLocators_50 hl (k := 0) rfl (iz_add k 1) (by decide) rfl (fun ls hl => ?_)
            refine lv_goto (tgt := 18) hx hb dX5_findLocators_53 (by decide) ?_
            have hP := eP_un0 hj47 hP
            have hD := eD_un0 hj47 hD
            have hok70 : xOk (va_up (va_up (va_up nL18 4 n1_58) 5 n2_62) 6 n3_66) (va_up (va_up (va_up zL18 4 z1_59) 5 z2_63) 6 z3_67) (va_up (va_up (va_up FL18 4 F1_60) 5 F2_64) 6 F3_68) := (((hRLL18.1.i 4 (by decide) (show 0 ≤ z1_59 ∧ z1_59 ≤ ((n1_58 : Nat) : Int) ∧ ((n1_58 : Nat) : Int) ≤ 1600 by omega) hb169).i 5 (by decide) (show 0 ≤ z2_63 ∧ z2_63 ≤ ((n2_62 : Nat) : Int) ∧ ((n2_62 : Nat) : Int) ≤ 1600 by omega) hb269).i 6 (by decide) (show 0 ≤ z3_67 ∧ z3_67 ≤ ((n3_66 : Nat) : Int) ∧ ((n3_66 : Nat) : Int) ≤ 1600 by omega) hb369)
            have hfr70 : xFr [4, 5, 6, 7, 8, 9, 16] [4, 5, 6, 7, 8, 9] z F (va_up (va_up (va_up zL18 4 z1_59) 5 z2_63) 6 z3_67) (va_up (va_up (va_up FL18 4 F1_60) 5 F2_64) 6 F3_68) := ((((((hRLL18.2.1.uz 4 (by decide) _).uz 5 (by decide) _).uz 6 (by decide) _).uf 4 (by decide) _).uf 5 (by decide) _).uf 6 (by decide) _)
            have hcg70 : (dn_55) + xg (va_up (va_up (va_up nL18 4 n1_58) 5 n2_62) 6 n3_66) ≤ xg nL18 := by unfold xg; simp (decide := true) only [va_ev, ↓reduceIte]; omega
            have hcp70 : (dm_56) + xp (va_up (va_up (va_up nL18 4 n1_58) 5 n2_62) 6 n3_66) ≤ xp nL18 := by unfold xp; simp (decide := true) only [va_ev, ↓reduceIte]; omega
            exact ih18 (k + 1) (va_up (va_up (va_up rL18 4 r1_57) 5 r2_61) 6 r3_65) (va_up (va_up (va_up nL18 4 n1_58) 5 n2_62) 6 n3_66) (va_up (va_up (va_up zL18 4 z1_59) 5 z2_63) 6 z3_67) (va_up (va_up (va_up FL18 4 F1_60) 5 F2_64) 6 F3_68) ErL18 EnL18 EzL18 EFL18 (cv + dn_55) (sv + dm_56) ⟨⟨hok70, hfr70, hRLL18.2.2.1, hRLL18.2.2.2⟩, ⟨by omega, by omega⟩, (show zL18 12 = z 12 by omega), by omega⟩ (by omega) _ _ hP hD hS ls (lv_sub hl [0, 1, 2] rfl)
    exact lp18 _ 0 r (va_up (va_up (va_up n 4 (n 4)) 5 (n 5)) 6 (n 6)) (va_up (va_up (va_up z 4 z1_9) 5 z2_10) 6 z3_11) (va_up (va_up (va_up F 4 (F 4)) 5 (F 5)) 6 (F 6)) Er En Ez EF (0 + 0) (0 + 0) ⟨⟨hok13, hfr13, hPE, hef⟩, ⟨by omega, by omega⟩, (show z 12 = z 12 by omega), by omega⟩ (Nat.lt_succ_self _) _ _ hP hD hS ls (lv_sub hl [0, 1, 2] rfl)
  · skip
    rw [← hQe]
    exact xk_vret (ov := (fun _ : (Nat → Nat) × (Nat → Nat) × (Nat → Int) × (Nat → Int → Int) × (Nat → Nat → Nat) × (Nat → Nat → Nat) × (Nat → Nat → Int) × (Nat → Nat → Int → Int) => none)) (post := (fun (u : (Nat → Nat) × (Nat → Nat) × (Nat → Int) × (Nat → Int → Int) × (Nat → Nat → Nat) × (Nat → Nat → Nat) × (Nat → Nat → Int) × (Nat → Nat → Int → Int)) (dn dm : Nat) => match u with | (r', n', z', F', Er', En', Ez', EF') => xR [4, 5, 6, 7, 8, 9, 16] [4, 5, 6, 7, 8, 9] [] [] N z F En Ez EF n' z' F' En' Ez' EF' ∧ (dn + xg n' ≤ xg n + 0 ∧ dm + xp n' ≤ xp n + 0) ∧ (True))) (ws := (fun u : (Nat → Nat) × (Nat → Nat) × (Nat → Int) × (Nat → Int → Int) × (Nat → Nat → Nat) × (Nat → Nat → Nat) × (Nat → Nat → Int) × (Nat → Nat → Int → Int) => match u with | (r', n', z', F', Er', En', Ez', EF') => (xU cI cB cE o r' n' z' F' G (Eo 0 0) ++ eP cI N Eo Er' En' Ez' EF'))) (tys := xT cI cB cE) (r, n, z, F, Er, En, Ez, EF) hx hb hr hlocks rfl hP hD hK hS dX5_findLocators_8 (fun dn dm hdn hdm => ⟨⟨hok, hfr, hPE, hef⟩, ⟨by omega, by omega⟩, trivial⟩) (by omega) (by omega)
set_option maxHeartbeats 4000000 in
set_option maxRecDepth 100000 in
theorem y_addSeenOf (l : Launch) (dC : Nat → ClassId) (dI : Nat → Nat → Nat) (cI cB cE : ClassId) (o r n : Nat → Nat) (z : Nat → Int) (F : Nat → Int → Int) (G : Nat → Option Nat) (N : Nat) (Eo Er En : Nat → Nat → Nat) (Ez : Nat → Nat → Int) (EF : Nat → Nat → Int → Int) (j1 : Nat) (sz : Nat) (hok : xOk n z F) (hxG : xG N (z 12) G Eo) (hPE : eA N En Ez EF) (hj_j1 : j1 < N) : Met l yX5_addSeenOf [.code yX5_addSeenOf cX5_addSeenOf 4 none] ({ frames := 3, cells := 150, slots := 60000, locals := 103 }) (va_Pc [.ref (o 15), .ref (Eo j1 4)] (kx_Pre dC dI (xU cI cB cE o r n z F G (Eo 0 0) ++ eP cI N Eo Er En Ez EF) (xT cI cB cE) sz)) (xQ (fun _ : (Nat → Nat) × (Nat → Nat) × (Nat → Int) × (Nat → Int → Int) × (Nat → Nat → Nat) × (Nat → Nat → Nat) × (Nat → Nat → Int) × (Nat → Nat → Int → Int) => none) (fun (u : (Nat → Nat) × (Nat → Nat) × (Nat → Int) × (Nat → Int → Int) × (Nat → Nat → Nat) × (Nat → Nat → Nat) × (Nat → Nat → Int) × (Nat → Nat → Int → Int)) (dn dm : Nat) => match u with | (r', n', z', F', Er', En', Ez', EF') => xR [2] [2] [] [] N z F En Ez EF n' z' F' En' Ez' EF' ∧ (dn + xg n' ≤ xg n + 0 ∧ dm + xp n' ≤ xp n + 0) ∧ (True)) (fun u t => kx_At dC dI (va_A (xU cI cB cE o r n z F G (Eo 0 0) ++ eP cI N Eo Er En Ez EF) sz) ((fun u : (Nat → Nat) × (Nat → Nat) × (Nat → Int) × (Nat → Int → Int) × (Nat → Nat → Nat) × (Nat → Nat → Nat) × (Nat → Nat → Int) × (Nat → Nat → Int → Int) => match u with | (r', n', z', F', Er', En', Ez', EF') => (xU cI cB cE o r' n' z' F' G (Eo 0 0) ++ eP cI N Eo Er' En' Ez' EF')) u) (xT cI cB cE) t) (va_A (xU cI cB cE o r n z F G (Eo 0 0) ++ eP cI N Eo Er En Ez EF) sz)) 150 60000 (va_A (xU cI cB cE o r n z F G (Eo 0 0) ++ eP cI N Eo Er En Ez EF) sz) := by
  refine Met.ofW (cc := cX5_addSeenOf) (maxL := 4) (ret := none) (by decide) rfl ?_
  intro p e s m args below meth c s₁ B hml hv
  obtain ⟨rfl, hsz, hP, hK, hD0, hG, hZ⟩ := hv
  have hx := B.exec
  have hb := B.bytes
  have hr := B.returns
  have hts := kx_hts (a := ([.ref (o 15), .ref (Eo j1 4)] : List Value).toArray) hG
  have hown : s.vm.findClass RX5 = some m.cls := findClass_of_methodNamed B.named
  have hlocks := B.notSynchronized
  subst hsz
  have hD := hD0.self (sz := s.heap.size)
  generalize hAe : va_A (xU cI cB cE o r n z F G (Eo 0 0) ++ eP cI N Eo Er En Ez EF) s.heap.size = A at hD hZ ⊢
  have hA : ∀ q : Nat, s.heap.size ≤ q → A q := fun q h => by rw [← hAe]; exact Or.inr h
  have hS : va_S A s.heap s.heap [] := va_S.rf
  have hl := lv_entry ([.ref (o 15), .ref (Eo j1 4)]) (n := 4) (Nat.le_of_ble_eq_true rfl)
  rw [lg_entry_eq]
  generalize (lg_sl ([.ref (o 15), .ref (Eo j1 4)]) ++ List.replicate (4 - (lg_sl ([.ref (o 15), .ref (Eo j1 4)])).length) Slot.unset).toArray = ls at hl ⊢
  obtain ⟨hN1, hN2, hN3, hN4⟩ := hxG
  have hef : eFr [] [] En Ez EF En Ez EF := eFr.rf
  have hfr : xFr [2] [2] z F z F := xFr.rf
  have hxgl := xg_le n
  have hxpl := xp_le n
  have hl : lv_has ls 4 [(0, .ref (o 15)), (1, .ref (Eo j1 4))] := hl
  generalize hQe : MQ below (xQ (fun _ : (Nat → Nat) × (Nat → Nat) × (Nat → Int) × (Nat → Int → Int) × (Nat → Nat → Nat) × (Nat → Nat → Nat) × (Nat → Nat → Int) × (Nat → Nat → Int → Int) => none) (fun (u : (Nat → Nat) × (Nat → Nat) × (Nat → Int) × (Nat → Int → Int) × (Nat → Nat → Nat) × (Nat → Nat → Nat) × (Nat → Nat → Int) × (Nat → Nat → Int → Int)) (dn dm : Nat) => match u with | (r', n', z', F', Er', En', Ez', EF') => xR [2] [2] [] [] N z F En Ez EF n' z' F' En' Ez' EF' ∧ (dn + xg n' ≤ xg n + 0 ∧ dm + xp n' ≤ xp n + 0) ∧ (True)) (fun u t => kx_At dC dI A ((fun u : (Nat → Nat) × (Nat → Nat) × (Nat → Int) × (Nat → Int → Int) × (Nat → Nat → Nat) × (Nat → Nat → Nat) × (Nat → Nat → Int) × (Nat → Nat → Int → Int) => match u with | (r', n', z', F', Er', En', Ez', EF') => (xU cI cB cE o r' n' z' F' G (Eo 0 0) ++ eP cI N Eo Er' En' Ez' EF')) u) (xT cI cB cE) t) A) ([.ref (o 15), .ref (Eo j1 4)] : List Value).toArray s 150 60000 A = QQ
  have hs3 : 0 ≤ Ez j1 3 ∧ Ez j1 3 ≤ (En j1 3 : Int) ∧ (En j1 3 : Int) ≤ 5 := (hPE j1 hj_j1).1 3 (by decide)
  refine lv_iconst (v := iz 0) hx hb dX5_addSeenOf_0 (by decide) ?_
  refine lv_istore_n (lv' := [(2, .int (iz 0)), (0, .ref (o 15)), (1, .ref (Eo j1 4))]) hx hb dX5_addSeenOf_1 rfl hl (by decide) rfl (fun ls hl => ?_)
  have lp2 : ∀ (n0 : Nat) (k : Int) (rL2 : Nat → Nat) (nL2 : Nat → Nat) (zL2 : Nat → Int) (FL2 : Nat → Int → Int) (cv : Nat) (sv : Nat), ((xR [2] [2] [] [] N z F En Ez EF nL2 zL2 FL2 En Ez EF) ∧ (cv + xg nL2 ≤ xg n + (0) ∧ sv + xp nL2 ≤ xp n + (0)) ∧ (zL2 12 = z 12) ∧ (0 ≤ k ∧ k ≤ 5)) → (Ez j1 3 - k).toNat < n0 → ∀ (H : Heap) (locs : List Loc), va_P (dC, dI) kxCl ((xU cI cB cE o rL2 nL2 zL2 FL2 G (Eo 0 0)) ++ (eP cI N Eo Er En Ez EF)) H → va_D A ((xU cI cB cE o rL2 nL2 zL2 FL2 G (Eo 0 0)) ++ (eP cI N Eo Er En Ez EF)) → va_S A s.heap H locs → ∀ ls : Array Slot, lv_has ls 4 [(2, .int (iz k)), (0, .ref (o 15)), (1, .ref (Eo j1 4))] → W p l e (headSpec [.code yX5_addSeenOf cX5_addSeenOf 4 none] ({ frames := 3, cells := 150, slots := 60000, locals := 103 })).room s m ([.ref (o 15), .ref (Eo j1 4)] : List Value).toArray below meth c H locs cv sv QQ (F0 m 2 ls []) := by
    intro n0
    induction n0 with
    | zero => intro k rL2 nL2 zL2 FL2 cv sv hinv hm0; exact absurd hm0 (Nat.not_lt_zero _)
    | succ n0 ih2 =>
      intro k rL2 nL2 zL2 FL2 cv sv hinv hm0 H locs hP hD hS ls hl
      obtain ⟨hRLL2, hCLL2, hZLL2, hk⟩ := hinv
      refine lv_iload_n hx hb dX5_addSeenOf_2 rfl (lv_at hl 0 rfl) ?_
      refine lv_aload_n hx hb dX5_addSeenOf_3 rfl (lv_at hl 2 rfl) ?_
      have hP := eP_foc hj_j1 hP
      have hD := eD_foc hj_j1 hD
      have he_1 : 0 ≤ Ez j1 3 ∧ Ez j1 3 ≤ ((En j1 3 : Nat) : Int) ∧ ((En j1 3 : Nat) : Int) ≤ 5 := (hRLL2.2.2.1 j1 hj_j1).1 3 (by decide)
      have hPc := hP.sub (ws' := (iU cI 5 (Eo j1 4) (Er j1 3) (En j1 3) (Ez j1 3) (EF j1 3))) [36, 37] rfl
      refine xk_pure (va_runV (As := []) (rest := [.int (iz k)]) ⟨hx, hb, hml, hown, hts⟩ (x_size l dC dI cI cB cE 5 (Eo j1 4) (Er j1 3) (En j1 3) (Ez j1 3) (EF j1 3)  H.size ) (cwV 0 hts (kx_gV kq_18_xrows_40 kq_15_xspan_10 kq_15_xspan_11 kq_13_xints_6 kq_15_xspan_12 rfl) rfl rfl rfl (by decide +kernel) ⟨Nat.le_of_ble_eq_true rfl, Nat.le_of_ble_eq_true rfl⟩) ⟨pPre_blind, va_recv hK hPc (ci := 1) (q0 := 0) rfl rfl, pPre_give hPc hK hG⟩ rfl rfl hl.1 rfl (lv_room (Nat.le_of_ble_eq_true rfl)) dX5_addSeenOf_4 ⟨show cv + 0 ≤ 150 from (by omega), show sv + 0 ≤ 60000 from (by omega)⟩) hS (fun z_3 locs hq_2 hS => ?_)
      refine W.eq (g2 := F0 m 7 ls [.int (iz z_3), .int (iz k)]) rfl ?_
      try dsimp only at hq_2
      have hq_2 := hq_2.symm
      subst hq_2
      refine ki_icmp_ge (tgt := 45) hx hb dX5_addSeenOf_7 (by decide) (by omega) (by omega) (by omega) (by omega) (fun c_4 => ?_) (fun c_4 => ?_)
      · skip
        have hP := eP_un0 hj_j1 hP
        have hD := eD_un0 hj_j1 hD
        rw [← hQe]
        exact xk_vret (ov := (fun _ : (Nat → Nat) × (Nat → Nat) × (Nat → Int) × (Nat → Int → Int) × (Nat → Nat → Nat) × (Nat → Nat → Nat) × (Nat → Nat → Int) × (Nat → Nat → Int → Int) => none)) (post := (fun (u : (Nat → Nat) × (Nat → Nat) × (Nat → Int) × (Nat → Int → Int) × (Nat → Nat → Nat) × (Nat → Nat → Nat) × (Nat → Nat → Int) × (Nat → Nat → Int → Int)) (dn dm : Nat) => match u with | (r', n', z', F', Er', En', Ez', EF') => xR [2] [2] [] [] N z F En Ez EF n' z' F' En' Ez' EF' ∧ (dn + xg n' ≤ xg n + 0 ∧ dm + xp n' ≤ xp n + 0) ∧ (True))) (ws := (fun u : (Nat → Nat) × (Nat → Nat) × (Nat → Int) × (Nat → Int → Int) × (Nat → Nat → Nat) × (Nat → Nat → Nat) × (Nat → Nat → Int) × (Nat → Nat → Int → Int) => match u with | (r', n', z', F', Er', En', Ez', EF') => (xU cI cB cE o r' n' z' F' G (Eo 0 0) ++ eP cI N Eo Er' En' Ez' EF'))) (tys := xT cI cB cE) (rL2, nL2, zL2, FL2, Er, En, Ez, EF) hx hb hr hlocks rfl hP hD hK hS dX5_addSeenOf_45 (fun dn dm hdn hdm => ⟨⟨hRLL2.1, hRLL2.2.1, hRLL2.2.2.1, hRLL2.2.2.2⟩, ⟨by omega, by omega⟩, trivial⟩) (by omega) (by omega)
      · skip
        refine lv_aload_n hx hb dX5_addSeenOf_10 rfl (lv_at hl 1 rfl) ?_
        refine lv_aload_n hx hb dX5_addSeenOf_11 rfl (lv_at hl 2 rfl) ?_
        refine lv_iload_n hx hb dX5_addSeenOf_12 rfl (lv_at hl 0 rfl) ?_
        have hPc := hP.sub (ws' := (iU cI 5 (Eo j1 4) (Er j1 3) (En j1 3) (Ez j1 3) (EF j1 3))) [36, 37] rfl
        refine xk_pure (va_runV (As := [.int (iz k)]) (rest := [.ref (o 15)]) ⟨hx, hb, hml, hown, hts⟩ (x_get l dC dI cI cB cE 5 (Eo j1 4) (Er j1 3) (En j1 3) (Ez j1 3) (EF j1 3) k H.size (by omega) ((hRLL2.2.2.1 j1 hj_j1).2.1 3) (by omega) (by omega)) (cwV 1 hts (kx_gV kq_18_xrows_41 kq_13_xints_4 kq_13_xints_5 kq_13_xints_6 kq_13_xints_7 rfl) rfl rfl rfl (by decide +kernel) ⟨Nat.le_of_ble_eq_true rfl, Nat.le_of_ble_eq_true rfl⟩) ⟨pPre_blind, va_recv hK hPc (ci := 1) (q0 := 0) rfl rfl, pPre_give hPc hK hG⟩ rfl rfl hl.1 rfl (lv_room (Nat.le_of_ble_eq_true rfl)) dX5_addSeenOf_13 ⟨show cv + 0 ≤ 150 from (by omega), show sv + 0 ≤ 60000 from (by omega)⟩) hS (fun z_6 locs hq_5 hS => ?_)
        refine W.eq (g2 := F0 m 16 ls [.int (iz z_6), .ref (o 15)]) rfl ?_
        try dsimp only at hq_5
        have hP := eP_un0 hj_j1 hP
        have hD := eD_un0 hj_j1 hD
        have hxz_7 : -2147483648 ≤ zL2 12 ∧ zL2 12 < 2147483648 := hRLL2.1.2.2.2.1 12
        have hxG9 : xG N (zL2 12) G Eo := ⟨by omega, by omega, by omega, fun e9 h9 => hN4 e9 (by omega)⟩
        have hP : va_P (dC, dI) kxCl (xU cI cB cE o rL2 nL2 zL2 FL2 G (Eo 0 0) ++ eP cI N Eo Er En Ez EF) H := hP
        refine xk_pure (va_runV (As := [.int (iz z_6)]) (rest := []) ⟨hx, hb, hml, hown, hts⟩ (y_firstOf l dC dI cI cB cE o rL2 nL2 zL2 FL2 G N Eo Er En Ez EF z_6 H.size hRLL2.1 hxG9 hRLL2.2.2.1 (by omega) (by omega)) (cwV 1 hts (kx_gV kq_18_xrows_15 kq_18_xrows_16 kq_18_xrows_17 kq_18_xrows_4 kq_18_xrows_18 rfl) rfl rfl rfl (by decide +kernel) ⟨Nat.le_of_ble_eq_true rfl, Nat.le_of_ble_eq_true rfl⟩) ⟨pPre_blind, va_recv hK hP (ci := 5) (q0 := 0) rfl rfl, pPre_give hP hK hG⟩ rfl rfl hl.1 rfl (lv_room (Nat.le_of_ble_eq_true rfl)) dX5_addSeenOf_16 ⟨show cv + 0 ≤ 150 from (by omega), show sv + 0 ≤ 60000 from (by omega)⟩) hS (fun z_9 locs hq_8 hS => ?_)
        refine W.eq (g2 := F0 m 19 ls [.int (iz z_9)]) rfl ?_
        try dsimp only at hq_8
        refine lv_istore_n (lv' := [(3, .int (iz z_9)), (2, .int (iz k)), (0, .ref (o 15)), (1, .ref (Eo j1 4))]) hx hb dX5_addSeenOf_19 rfl hl (by decide) rfl (fun ls hl => ?_)
        refine lv_aload_n hx hb dX5_addSeenOf_20 rfl (lv_at hl 2 rfl) ?_
        refine va_get (D := (dC, dI)) (ci := 5) (v := .ref (o 2)) (C := RX5) (T := TX5) (N := 16) hx hb hts kt_X5 hown hK hP 0 rfl rfl 11 (by decide) (kx_word hG kq_19_xouts_27 rfl) (fun _ h9 => h9) rfl dX5_addSeenOf_21 ?_
        refine lv_iload_n hx hb dX5_addSeenOf_24 rfl (lv_at hl 0 rfl) ?_
        have hxi_10 : 0 ≤ zL2 2 ∧ zL2 2 ≤ ((nL2 2 : Nat) : Int) ∧ ((nL2 2 : Nat) : Int) ≤ 80 := hRLL2.1.1 2 (by decide)
        have hPc := hP.sub (ws' := (iU cI 80 (o 2) (rL2 2) (nL2 2) (zL2 2) (FL2 2))) [6, 7] rfl
        refine xk_pure (va_runV (As := [.int (iz z_9)]) (rest := []) ⟨hx, hb, hml, hown, hts⟩ (x_has l dC dI cI cB cE 80 (o 2) (rL2 2) (nL2 2) (zL2 2) (FL2 2) z_9 H.size (by omega) (hRLL2.1.2.2.1 2) (by omega) (by omega)) (cwV 1 hts (kx_gV kq_19_xouts_28 kq_19_xouts_29 kq_19_xouts_30 kq_13_xints_6 kq_19_xouts_31 rfl) rfl rfl rfl (by decide +kernel) ⟨Nat.le_of_ble_eq_true rfl, Nat.le_of_ble_eq_true rfl⟩) ⟨pPre_blind, va_recv hK hPc (ci := 1) (q0 := 0) rfl rfl, pPre_give hPc hK hG⟩ rfl rfl hl.1 rfl (lv_room (Nat.le_of_ble_eq_true rfl)) dX5_addSeenOf_25 ⟨show cv + 0 ≤ 150 from (by omega), show sv + 0 ≤ 60000 from (by omega)⟩) hS (fun z_12 locs hq_11 hS => ?_)
        refine W.eq (g2 := F0 m 28 ls [.int (iz z_12)]) rfl ?_
        try dsimp only at hq_11
        refine ki_if_ne (tgt := 39) hx hb dX5_addSeenOf_28 (by decide) (by omega) (by omega) (fun c_13 => ?_) (fun c_13 => ?_)
        · skip
          refine lv_iinc (v := iz (k + 1)) (lv' := [(2, .int (iz (k + 1))), (3, .int (iz z_9)), (0, .ref (o 15)), (1, .ref (Eo j1 4))]) hx hb dX5_addSeenOf_39 hl (k := 1) rfl (iz_add k 1) (by decide) rfl (fun ls hl => ?_)
          refine lv_goto (tgt := 2) hx hb dX5_addSeenOf_42 (by decide) ?_
          exact ih2 (k + 1) rL2 nL2 zL2 FL2 cv sv ⟨⟨hRLL2.1, hRLL2.2.1, hRLL2.2.2.1, hRLL2.2.2.2⟩, ⟨by omega, by omega⟩, (show zL2 12 = z 12 by omega), by omega⟩ (by omega) _ _ hP hD hS ls (lv_sub hl [0, 2, 3] rfl)
        · skip
          refine lv_aload_n hx hb dX5_addSeenOf_31 rfl (lv_at hl 2 rfl) ?_
          refine va_get (D := (dC, dI)) (ci := 5) (v := .ref (o 2)) (C := RX5) (T := TX5) (N := 16) hx hb hts kt_X5 hown hK hP 0 rfl rfl 11 (by decide) (kx_word hG kq_19_xouts_27 rfl) (fun _ h9 => h9) rfl dX5_addSeenOf_32 ?_
          refine lv_iload_n hx hb dX5_addSeenOf_35 rfl (lv_at hl 0 rfl) ?_
          have hPc := hP.sub (ws' := (iU cI 80 (o 2) (rL2 2) (nL2 2) (zL2 2) (FL2 2))) [6, 7] rfl
          have hDc := hD.sub (ws' := (iU cI 80 (o 2) (rL2 2) (nL2 2) (zL2 2) (FL2 2))) [6, 7] (by decide) rfl
          have hFc := va_free (wc := (iU cI 80 (o 2) (rL2 2) (nL2 2) (zL2 2) (FL2 2))) hD hS hA [6, 7] rfl
          refine xk_call (va_runV (As := [.int (iz z_9)]) (rest := []) ⟨hx, hb, hml, hown, hts⟩ (x_add l dC dI cI cB cE 80 (o 2) (rL2 2) (nL2 2) (zL2 2) (FL2 2) z_9 H.size (by omega) (hRLL2.1.2.2.1 2) (by omega) (by omega)) (cwV 1 hts (kx_gV kq_18_xrows_39 kq_15_xspan_46 kq_15_xspan_47 kq_13_xints_6 kq_15_xspan_48 rfl) rfl rfl rfl (by decide +kernel) ⟨Nat.le_of_ble_eq_true rfl, Nat.le_of_ble_eq_true rfl⟩) ⟨kx_blind, va_recv hK hPc (ci := 1) (q0 := 0) rfl rfl, kx_give (ws := []) (tys := []) hPc hDc hK hG hZ hS hFc⟩ rfl rfl hl.1 rfl (lv_room (Nat.le_of_ble_eq_true rfl)) dX5_addSeenOf_36 ⟨show cv + 1 ≤ 150 from (by omega), show sv + 1600 ≤ 60000 from (by omega)⟩) hS (fun q _ h => hFc q h) hFc (fun u dn_15 dm_16 t H locs ht hvm hq_14 hB hk1 hS => ?_)
          obtain ⟨r_17, n_18, z_19, F_20⟩ := u
          obtain ⟨hP1, hK1, hD1⟩ := hB
          rw [ht] at hP1
          obtain ⟨hP, hD⟩ := xj_pool (wr := [(o 15, .inr (5, [.ref (o 16), .ref (Eo 0 0), .int (iz (zL2 12)), .int (iz (zL2 13)), .int (iz (zL2 14)), .ref (o 0), .ref (o 1), .int (iz (zL2 15)), .ref (o 13), .ref (o 14), .int (iz (zL2 16)), .ref (o 2), .ref (o 12), .ref (o 3), .ref (o 10), .ref (o 11)])), (o 16, .inl (cE, 80, .inr (.inr (.inr (.inr G))))), (o 0, .inr (1, [.int (iz 80), .ref (rL2 0), .int (iz (zL2 0))])), (rL2 0, .inl (cI, nL2 0, .inl (iA (FL2 0)))), (o 1, .inr (1, [.int (iz 80), .ref (rL2 1), .int (iz (zL2 1))])), (rL2 1, .inl (cI, nL2 1, .inl (iA (FL2 1)))), (o 3, .inr (1, [.int (iz 80), .ref (rL2 3), .int (iz (zL2 3))])), (rL2 3, .inl (cI, nL2 3, .inl (iA (FL2 3)))), (o 13, .inr (3, [.ref (o 4), .ref (o 5), .ref (o 6)])), (o 4, .inr (1, [.int (iz 1600), .ref (rL2 4), .int (iz (zL2 4))])), (rL2 4, .inl (cI, nL2 4, .inl (iA (FL2 4)))), (o 5, .inr (1, [.int (iz 1600), .ref (rL2 5), .int (iz (zL2 5))])), (rL2 5, .inl (cI, nL2 5, .inl (iA (FL2 5)))), (o 6, .inr (1, [.int (iz 1600), .ref (rL2 6), .int (iz (zL2 6))])), (rL2 6, .inl (cI, nL2 6, .inl (iA (FL2 6)))), (o 14, .inr (3, [.ref (o 7), .ref (o 8), .ref (o 9)])), (o 7, .inr (1, [.int (iz 1600), .ref (rL2 7), .int (iz (zL2 7))])), (rL2 7, .inl (cI, nL2 7, .inl (iA (FL2 7)))), (o 8, .inr (1, [.int (iz 1600), .ref (rL2 8), .int (iz (zL2 8))])), (rL2 8, .inl (cI, nL2 8, .inl (iA (FL2 8)))), (o 9, .inr (1, [.int (iz 1600), .ref (rL2 9), .int (iz (zL2 9))])), (rL2 9, .inl (cI, nL2 9, .inl (iA (FL2 9)))), (o 12, .inr (4, [.int (iz (zL2 17)), .int (iz (zL2 18)), .int (iz (zL2 19)), .int (iz (zL2 20)), .int (iz (zL2 21))])), (o 10, .inr (2, [.ref (rL2 10), .int (iz (zL2 10)), .int (iz (zL2 22))])), (rL2 10, .inl (cB, nL2 10, .inl (iA (FL2 10)))), (o 11, .inr (2, [.ref (rL2 11), .int (iz (zL2 11)), .int (iz (zL2 23))])), (rL2 11, .inl (cB, nL2 11, .inl (iA (FL2 11))))]) (w1 := (iU cI 80 (o 2) r_17 n_18 z_19 F_20)) (ws' := (xU cI cB cE o (va_up rL2 2 r_17) (va_up nL2 2 n_18) (va_up zL2 2 z_19) (va_up FL2 2 F_20) G (Eo 0 0))) hP hD [6, 7] [0, 1, 2, 3, 4, 5, 8, 9, 10, 11, 12, 13, 14, 15, 16, 17, 18, 19, 20, 21, 22, 23, 24, 25, 26, 27, 28] [0, 1, 2, 3, 4, 5, 27, 28, 6, 7, 8, 9, 10, 11, 12, 13, 14, 15, 16, 17, 18, 19, 20, 21, 22, 23, 24, 25, 26] rfl rfl (by decide) (by decide) hk1 hFc hP1 hD1 rfl (by decide)
          refine W.eq (g2 := F0 m 39 ls []) rfl ?_
          try dsimp only at hq_14
          obtain ⟨ha21, hb21, hc21, hd21⟩ := hq_14
          have hax21 := hd21.1
          refine lv_iinc (v := iz (k + 1)) (lv' := [(2, .int (iz (k + 1))), (3, .int (iz z_9)), (0, .ref (o 15)), (1, .ref (Eo j1 4))]) hx hb dX5_addSeenOf_39 hl (k := 1) rfl (iz_add k 1) (by decide) rfl (fun ls hl => ?_)
          refine lv_goto (tgt := 2) hx hb dX5_addSeenOf_42 (by decide) ?_
          have hok22 : xOk (va_up nL2 2 n_18) (va_up zL2 2 z_19) (va_up FL2 2 F_20) := (hRLL2.1.i 2 (by decide) (show 0 ≤ z_19 ∧ z_19 ≤ ((n_18 : Nat) : Int) ∧ ((n_18 : Nat) : Int) ≤ 80 by omega) hb21)
          have hfr22 : xFr [2] [2] z F (va_up zL2 2 z_19) (va_up FL2 2 F_20) := ((hRLL2.2.1.uz 2 (by decide) _).uf 2 (by decide) _)
          have hcg22 : (dn_15) + xg (va_up nL2 2 n_18) ≤ xg nL2 := by unfold xg; simp (decide := true) only [va_ev, ↓reduceIte]; omega
          have hcp22 : (dm_16) + xp (va_up nL2 2 n_18) ≤ xp nL2 := by unfold xp; simp (decide := true) only [va_ev, ↓reduceIte]; omega
          exact ih2 (k + 1) (va_up rL2 2 r_17) (va_up nL2 2 n_18) (va_up zL2 2 z_19) (va_up FL2 2 F_20) (cv + dn_15) (sv + dm_16) ⟨⟨hok22, hfr22, hRLL2.2.2.1, hRLL2.2.2.2⟩, ⟨by omega, by omega⟩, (show zL2 12 = z 12 by omega), by omega⟩ (by omega) _ _ hP hD hS ls (lv_sub hl [0, 2, 3] rfl)
  exact lp2 _ 0 r n z F 0 0 ⟨⟨hok, hfr, hPE, hef⟩, ⟨by omega, by omega⟩, (show z 12 = z 12 by omega), by omega⟩ (Nat.lt_succ_self _) _ _ hP hD hS ls (lv_sub hl [0, 1, 2] rfl)
set_option maxHeartbeats 4000000 in
set_option maxRecDepth 100000 in
theorem y_findSeen (l : Launch) (dC : Nat → ClassId) (dI : Nat → Nat → Nat) (cI cB cE : ClassId) (o r n : Nat → Nat) (z : Nat → Int) (F : Nat → Int → Int) (G : Nat → Option Nat) (N : Nat) (Eo Er En : Nat → Nat → Nat) (Ez : Nat → Nat → Int) (EF : Nat → Nat → Int → Int) (p0 : Int) (sz : Nat) (hok : xOk n z F) (hxG : xG N (z 12) G Eo) (hPE : eA N En Ez EF) (hp01 : -2147483648 ≤ p0) (hp02 : p0 < 2147483648) : Met l yX5_findSeen [.code yX5_findSeen cX5_findSeen 3 none] ({ frames := 4, cells := 260, slots := 110000, locals := 126 }) (va_Pc [.ref (o 15), .int (iz p0)] (kx_Pre dC dI (xU cI cB cE o r n z F G (Eo 0 0) ++ eP cI N Eo Er En Ez EF) (xT cI cB cE) sz)) (xQ (fun _ : (Nat → Nat) × (Nat → Nat) × (Nat → Int) × (Nat → Int → Int) × (Nat → Nat → Nat) × (Nat → Nat → Nat) × (Nat → Nat → Int) × (Nat → Nat → Int → Int) => none) (fun (u : (Nat → Nat) × (Nat → Nat) × (Nat → Int) × (Nat → Int → Int) × (Nat → Nat → Nat) × (Nat → Nat → Nat) × (Nat → Nat → Int) × (Nat → Nat → Int → Int)) (dn dm : Nat) => match u with | (r', n', z', F', Er', En', Ez', EF') => xR [2] [2] [] [] N z F En Ez EF n' z' F' En' Ez' EF' ∧ (dn + xg n' ≤ xg n + 0 ∧ dm + xp n' ≤ xp n + 0) ∧ (True)) (fun u t => kx_At dC dI (va_A (xU cI cB cE o r n z F G (Eo 0 0) ++ eP cI N Eo Er En Ez EF) sz) ((fun u : (Nat → Nat) × (Nat → Nat) × (Nat → Int) × (Nat → Int → Int) × (Nat → Nat → Nat) × (Nat → Nat → Nat) × (Nat → Nat → Int) × (Nat → Nat → Int → Int) => match u with | (r', n', z', F', Er', En', Ez', EF') => (xU cI cB cE o r' n' z' F' G (Eo 0 0) ++ eP cI N Eo Er' En' Ez' EF')) u) (xT cI cB cE) t) (va_A (xU cI cB cE o r n z F G (Eo 0 0) ++ eP cI N Eo Er En Ez EF) sz)) 260 110000 (va_A (xU cI cB cE o r n z F G (Eo 0 0) ++ eP cI N Eo Er En Ez EF) sz) := by
  refine Met.ofW (cc := cX5_findSeen) (maxL := 3) (ret := none) (by decide) rfl ?_
  intro p e s m args below meth c s₁ B hml hv
  obtain ⟨rfl, hsz, hP, hK, hD0, hG, hZ⟩ := hv
  have hx := B.exec
  have hb := B.bytes
  have hr := B.returns
  have hts := kx_hts (a := ([.ref (o 15), .int (iz p0)] : List Value).toArray) hG
  have hown : s.vm.findClass RX5 = some m.cls := findClass_of_methodNamed B.named
  have hlocks := B.notSynchronized
  subst hsz
  have hD := hD0.self (sz := s.heap.size)
  generalize hAe : va_A (xU cI cB cE o r n z F G (Eo 0 0) ++ eP cI N Eo Er En Ez EF) s.heap.size = A at hD hZ ⊢
  have hA : ∀ q : Nat, s.heap.size ≤ q → A q := fun q h => by rw [← hAe]; exact Or.inr h
  have hS : va_S A s.heap s.heap [] := va_S.rf
  have hl := lv_entry ([.ref (o 15), .int (iz p0)]) (n := 3) (Nat.le_of_ble_eq_true rfl)
  rw [lg_entry_eq]
  generalize (lg_sl ([.ref (o 15), .int (iz p0)]) ++ List.replicate (3 - (lg_sl ([.ref (o 15), .int (iz p0)])).length) Slot.unset).toArray = ls at hl ⊢
  obtain ⟨hN1, hN2, hN3, hN4⟩ := hxG
  have hef : eFr [] [] En Ez EF En Ez EF := eFr.rf
  have hfr : xFr [2] [2] z F z F := xFr.rf
  have hxgl := xg_le n
  have hxpl := xp_le n
  have hl : lv_has ls 3 [(0, .ref (o 15)), (1, .int (iz p0))] := hl
  generalize hQe : MQ below (xQ (fun _ : (Nat → Nat) × (Nat → Nat) × (Nat → Int) × (Nat → Int → Int) × (Nat → Nat → Nat) × (Nat → Nat → Nat) × (Nat → Nat → Int) × (Nat → Nat → Int → Int) => none) (fun (u : (Nat → Nat) × (Nat → Nat) × (Nat → Int) × (Nat → Int → Int) × (Nat → Nat → Nat) × (Nat → Nat → Nat) × (Nat → Nat → Int) × (Nat → Nat → Int → Int)) (dn dm : Nat) => match u with | (r', n', z', F', Er', En', Ez', EF') => xR [2] [2] [] [] N z F En Ez EF n' z' F' En' Ez' EF' ∧ (dn + xg n' ≤ xg n + 0 ∧ dm + xp n' ≤ xp n + 0) ∧ (True)) (fun u t => kx_At dC dI A ((fun u : (Nat → Nat) × (Nat → Nat) × (Nat → Int) × (Nat → Int → Int) × (Nat → Nat → Nat) × (Nat → Nat → Nat) × (Nat → Nat → Int) × (Nat → Nat → Int → Int) => match u with | (r', n', z', F', Er', En', Ez', EF') => (xU cI cB cE o r' n' z' F' G (Eo 0 0) ++ eP cI N Eo Er' En' Ez' EF')) u) (xT cI cB cE) t) A) ([.ref (o 15), .int (iz p0)] : List Value).toArray s 260 110000 A = QQ
  refine lv_aload_n hx hb dX5_findSeen_0 rfl (lv_at hl 0 rfl) ?_
  refine va_get (D := (dC, dI)) (ci := 5) (v := .ref (o 2)) (C := RX5) (T := TX5) (N := 16) hx hb hts kt_X5 hown hK hP 0 rfl rfl 11 (by decide) (kx_word hG kq_19_xouts_27 rfl) (fun _ h9 => h9) rfl dX5_findSeen_1 ?_
  have hxi_1 : 0 ≤ z 2 ∧ z 2 ≤ ((n 2 : Nat) : Int) ∧ ((n 2 : Nat) : Int) ≤ 80 := hok.1 2 (by decide)
  have hPc := hP.sub (ws' := (iU cI 80 (o 2) (r 2) (n 2) (z 2) (F 2))) [6, 7] rfl
  have hDc := hD.sub (ws' := (iU cI 80 (o 2) (r 2) (n 2) (z 2) (F 2))) [6, 7] (by decide) rfl
  have hFc := va_free (wc := (iU cI 80 (o 2) (r 2) (n 2) (z 2) (F 2))) hD hS hA [6, 7] rfl
  refine xk_call (va_runV (As := []) (rest := []) ⟨hx, hb, hml, hown, hts⟩ (x_clear l dC dI cI cB cE 80 (o 2) (r 2) (n 2) (z 2) (F 2)  s.heap.size ) (cwV 0 hts (kx_gV kq_18_xrows_38 kq_15_xspan_42 kq_15_xspan_43 kq_13_xints_6 kq_15_xspan_44 rfl) rfl rfl rfl (by decide +kernel) ⟨Nat.le_of_ble_eq_true rfl, Nat.le_of_ble_eq_true rfl⟩) ⟨kx_blind, va_recv hK hPc (ci := 1) (q0 := 0) rfl rfl, kx_give (ws := []) (tys := []) hPc hDc hK hG hZ hS hFc⟩ rfl rfl hl.1 rfl (lv_room (Nat.le_of_ble_eq_true rfl)) dX5_findSeen_4 ⟨show 0 + 0 ≤ 260 from (by omega), show 0 + 0 ≤ 110000 from (by omega)⟩) hS (fun q _ h => hFc q h) hFc (fun u dn_3 dm_4 t H locs ht hvm hq_2 hB hk1 hS => ?_)
  obtain ⟨z_5, rfl⟩ : ∃ z, z = u := ⟨_, rfl⟩
  obtain ⟨hP1, hK1, hD1⟩ := hB
  rw [ht] at hP1
  obtain ⟨hP, hD⟩ := xj_pool (wr := [(o 15, .inr (5, [.ref (o 16), .ref (Eo 0 0), .int (iz (z 12)), .int (iz (z 13)), .int (iz (z 14)), .ref (o 0), .ref (o 1), .int (iz (z 15)), .ref (o 13), .ref (o 14), .int (iz (z 16)), .ref (o 2), .ref (o 12), .ref (o 3), .ref (o 10), .ref (o 11)])), (o 16, .inl (cE, 80, .inr (.inr (.inr (.inr G))))), (o 0, .inr (1, [.int (iz 80), .ref (r 0), .int (iz (z 0))])), (r 0, .inl (cI, n 0, .inl (iA (F 0)))), (o 1, .inr (1, [.int (iz 80), .ref (r 1), .int (iz (z 1))])), (r 1, .inl (cI, n 1, .inl (iA (F 1)))), (o 3, .inr (1, [.int (iz 80), .ref (r 3), .int (iz (z 3))])), (r 3, .inl (cI, n 3, .inl (iA (F 3)))), (o 13, .inr (3, [.ref (o 4), .ref (o 5), .ref (o 6)])), (o 4, .inr (1, [.int (iz 1600), .ref (r 4), .int (iz (z 4))])), (r 4, .inl (cI, n 4, .inl (iA (F 4)))), (o 5, .inr (1, [.int (iz 1600), .ref (r 5), .int (iz (z 5))])), (r 5, .inl (cI, n 5, .inl (iA (F 5)))), (o 6, .inr (1, [.int (iz 1600), .ref (r 6), .int (iz (z 6))])), (r 6, .inl (cI, n 6, .inl (iA (F 6)))), (o 14, .inr (3, [.ref (o 7), .ref (o 8), .ref (o 9)])), (o 7, .inr (1, [.int (iz 1600), .ref (r 7), .int (iz (z 7))])), (r 7, .inl (cI, n 7, .inl (iA (F 7)))), (o 8, .inr (1, [.int (iz 1600), .ref (r 8), .int (iz (z 8))])), (r 8, .inl (cI, n 8, .inl (iA (F 8)))), (o 9, .inr (1, [.int (iz 1600), .ref (r 9), .int (iz (z 9))])), (r 9, .inl (cI, n 9, .inl (iA (F 9)))), (o 12, .inr (4, [.int (iz (z 17)), .int (iz (z 18)), .int (iz (z 19)), .int (iz (z 20)), .int (iz (z 21))])), (o 10, .inr (2, [.ref (r 10), .int (iz (z 10)), .int (iz (z 22))])), (r 10, .inl (cB, n 10, .inl (iA (F 10)))), (o 11, .inr (2, [.ref (r 11), .int (iz (z 11)), .int (iz (z 23))])), (r 11, .inl (cB, n 11, .inl (iA (F 11))))]) (w1 := (iU cI 80 (o 2) (r 2) (n 2) z_5 (F 2))) (ws' := (xU cI cB cE o r n (va_up z 2 z_5) F G (Eo 0 0))) hP hD [6, 7] [0, 1, 2, 3, 4, 5, 8, 9, 10, 11, 12, 13, 14, 15, 16, 17, 18, 19, 20, 21, 22, 23, 24, 25, 26, 27, 28] [0, 1, 2, 3, 4, 5, 27, 28, 6, 7, 8, 9, 10, 11, 12, 13, 14, 15, 16, 17, 18, 19, 20, 21, 22, 23, 24, 25, 26] rfl rfl (by decide) (by decide) hk1 hFc hP1 hD1 rfl (by decide)
  refine W.eq (g2 := F0 m 7 ls []) rfl ?_
  try dsimp only at hq_2
  obtain ⟨hd6, hm6, hz6⟩ := hq_2
  subst hd6
  subst hm6
  refine lv_iconst (v := iz 0) hx hb dX5_findSeen_7 (by decide) ?_
  refine lv_istore_n (lv' := [(2, .int (iz 0)), (0, .ref (o 15)), (1, .int (iz p0))]) hx hb dX5_findSeen_8 rfl hl (by decide) rfl (fun ls hl => ?_)
  have hok7 : xOk (va_up n 2 (n 2)) (va_up z 2 z_5) (va_up F 2 (F 2)) := (hok.i 2 (by decide) (show 0 ≤ z_5 ∧ z_5 ≤ ((n 2 : Nat) : Int) ∧ ((n 2 : Nat) : Int) ≤ 80 by omega) (hok.2.2.1 2))
  have hfr7 : xFr [2] [2] z F (va_up z 2 z_5) (va_up F 2 (F 2)) := ((hfr.uz 2 (by decide) _).uf 2 (by decide) _)
  have hcg7 : (0) + xg (va_up n 2 (n 2)) ≤ xg n := by unfold xg; simp (decide := true) only [va_ev, ↓reduceIte]; omega
  have hcp7 : (0) + xp (va_up n 2 (n 2)) ≤ xp n := by unfold xp; simp (decide := true) only [va_ev, ↓reduceIte]; omega
  have lp9 : ∀ (n0 : Nat) (k : Int) (rL9 : Nat → Nat) (nL9 : Nat → Nat) (zL9 : Nat → Int) (FL9 : Nat → Int → Int) (ErL9 : Nat → Nat → Nat) (EnL9 : Nat → Nat → Nat) (EzL9 : Nat → Nat → Int) (EFL9 : Nat → Nat → Int → Int) (cv : Nat) (sv : Nat), ((xR [2] [2] [] [] N z F En Ez EF nL9 zL9 FL9 EnL9 EzL9 EFL9) ∧ (cv + xg nL9 ≤ xg n + (0) ∧ sv + xp nL9 ≤ xp n + (0)) ∧ (zL9 12 = z 12) ∧ (0 ≤ k ∧ k ≤ 79)) → (z 12 - k).toNat < n0 → ∀ (H : Heap) (locs : List Loc), va_P (dC, dI) kxCl ((xU cI cB cE o rL9 nL9 zL9 FL9 G (Eo 0 0)) ++ (eP cI N Eo ErL9 EnL9 EzL9 EFL9)) H → va_D A ((xU cI cB cE o rL9 nL9 zL9 FL9 G (Eo 0 0)) ++ (eP cI N Eo ErL9 EnL9 EzL9 EFL9)) → va_S A s.heap H locs → ∀ ls : Array Slot, lv_has ls 3 [(2, .int (iz k)), (0, .ref (o 15)), (1, .int (iz p0))] → W p l e (headSpec [.code yX5_findSeen cX5_findSeen 3 none] ({ frames := 4, cells := 260, slots := 110000, locals := 126 })).room s m ([.ref (o 15), .int (iz p0)] : List Value).toArray below meth c H locs cv sv QQ (F0 m 9 ls []) := by
    intro n0
    induction n0 with
    | zero => intro k rL9 nL9 zL9 FL9 ErL9 EnL9 EzL9 EFL9 cv sv hinv hm0; exact absurd hm0 (Nat.not_lt_zero _)
    | succ n0 ih9 =>
      intro k rL9 nL9 zL9 FL9 ErL9 EnL9 EzL9 EFL9 cv sv hinv hm0 H locs hP hD hS ls hl
      obtain ⟨hRLL9, hCLL9, hZLL9, hk⟩ := hinv
      refine lv_iload_n hx hb dX5_findSeen_9 rfl (lv_at hl 0 rfl) ?_
      refine lv_aload_n hx hb dX5_findSeen_10 rfl (lv_at hl 1 rfl) ?_
      have hxz_8 : -2147483648 ≤ zL9 12 ∧ zL9 12 < 2147483648 := hRLL9.1.2.2.2.1 12
      refine va_get (D := (dC, dI)) (ci := 5) (v := .int (iz (zL9 12))) (C := RX5) (T := TX5) (N := 16) hx hb hts kt_X5 hown hK hP 0 rfl rfl 2 (by decide) (kx_word hG kq_18_xrows_0 rfl) (fun _ h9 => h9) rfl dX5_findSeen_11 ?_
      refine ki_icmp_ge (tgt := 44) hx hb dX5_findSeen_14 (by decide) (by omega) (by omega) (by omega) (by omega) (fun c_9 => ?_) (fun c_9 => ?_)
      · skip
        rw [← hQe]
        exact xk_vret (ov := (fun _ : (Nat → Nat) × (Nat → Nat) × (Nat → Int) × (Nat → Int → Int) × (Nat → Nat → Nat) × (Nat → Nat → Nat) × (Nat → Nat → Int) × (Nat → Nat → Int → Int) => none)) (post := (fun (u : (Nat → Nat) × (Nat → Nat) × (Nat → Int) × (Nat → Int → Int) × (Nat → Nat → Nat) × (Nat → Nat → Nat) × (Nat → Nat → Int) × (Nat → Nat → Int → Int)) (dn dm : Nat) => match u with | (r', n', z', F', Er', En', Ez', EF') => xR [2] [2] [] [] N z F En Ez EF n' z' F' En' Ez' EF' ∧ (dn + xg n' ≤ xg n + 0 ∧ dm + xp n' ≤ xp n + 0) ∧ (True))) (ws := (fun u : (Nat → Nat) × (Nat → Nat) × (Nat → Int) × (Nat → Int → Int) × (Nat → Nat → Nat) × (Nat → Nat → Nat) × (Nat → Nat → Int) × (Nat → Nat → Int → Int) => match u with | (r', n', z', F', Er', En', Ez', EF') => (xU cI cB cE o r' n' z' F' G (Eo 0 0) ++ eP cI N Eo Er' En' Ez' EF'))) (tys := xT cI cB cE) (rL9, nL9, zL9, FL9, ErL9, EnL9, EzL9, EFL9) hx hb hr hlocks rfl hP hD hK hS dX5_findSeen_44 (fun dn dm hdn hdm => ⟨⟨hRLL9.1, hRLL9.2.1, hRLL9.2.2.1, hRLL9.2.2.2⟩, ⟨by omega, by omega⟩, trivial⟩) (by omega) (by omega)
      · skip
        refine lv_aload_n hx hb dX5_findSeen_17 rfl (lv_at hl 1 rfl) ?_
        refine lv_iload_n hx hb dX5_findSeen_18 rfl (lv_at hl 0 rfl) ?_
        have hxG9 : xG N (zL9 12) G Eo := ⟨by omega, by omega, by omega, fun e9 h9 => hN4 e9 (by omega)⟩
        have hP : va_P (dC, dI) kxCl (xU cI cB cE o rL9 nL9 zL9 FL9 G (Eo 0 0) ++ eP cI N Eo ErL9 EnL9 EzL9 EFL9) H := hP
        refine xk_pure (va_runV (As := [.int (iz k)]) (rest := []) ⟨hx, hb, hml, hown, hts⟩ (y_firstOf l dC dI cI cB cE o rL9 nL9 zL9 FL9 G N Eo ErL9 EnL9 EzL9 EFL9 k H.size hRLL9.1 hxG9 hRLL9.2.2.1 (by omega) (by omega)) (cwV 1 hts (kx_gV kq_18_xrows_15 kq_18_xrows_16 kq_18_xrows_17 kq_18_xrows_4 kq_18_xrows_18 rfl) rfl rfl rfl (by decide +kernel) ⟨Nat.le_of_ble_eq_true rfl, Nat.le_of_ble_eq_true rfl⟩) ⟨pPre_blind, va_recv hK hP (ci := 5) (q0 := 0) rfl rfl, pPre_give hP hK hG⟩ rfl rfl hl.1 rfl (lv_room (Nat.le_of_ble_eq_true rfl)) dX5_findSeen_19 ⟨show cv + 0 ≤ 260 from (by omega), show sv + 0 ≤ 110000 from (by omega)⟩) hS (fun z_11 locs hq_10 hS => ?_)
        refine W.eq (g2 := F0 m 22 ls [.int (iz z_11)]) rfl ?_
        try dsimp only at hq_10
        refine lv_iload_n hx hb dX5_findSeen_22 rfl (lv_at hl 2 rfl) ?_
        refine ki_icmp_ne (tgt := 38) hx hb dX5_findSeen_23 (by decide) (by omega) (by omega) (by omega) (by omega) (fun c_12 => ?_) (fun c_12 => ?_)
        · skip
          refine lv_iinc (v := iz (k + 1)) (lv' := [(2, .int (iz (k + 1))), (0, .ref (o 15)), (1, .int (iz p0))]) hx hb dX5_findSeen_38 hl (k := 0) rfl (iz_add k 1) (by decide) rfl (fun ls hl => ?_)
          refine lv_goto (tgt := 9) hx hb dX5_findSeen_41 (by decide) ?_
          exact ih9 (k + 1) rL9 nL9 zL9 FL9 ErL9 EnL9 EzL9 EFL9 cv sv ⟨⟨hRLL9.1, hRLL9.2.1, hRLL9.2.2.1, hRLL9.2.2.2⟩, ⟨by omega, by omega⟩, (show zL9 12 = z 12 by omega), by omega⟩ (by omega) _ _ hP hD hS ls (lv_sub hl [0, 1, 2] rfl)
        · skip
          refine lv_aload_n hx hb dX5_findSeen_26 rfl (lv_at hl 1 rfl) ?_
          refine lv_aload_n hx hb dX5_findSeen_27 rfl (lv_at hl 1 rfl) ?_
          refine lv_iload_n hx hb dX5_findSeen_28 rfl (lv_at hl 0 rfl) ?_
          have hxG9 : xG N (zL9 12) G Eo := ⟨by omega, by omega, by omega, fun e9 h9 => hN4 e9 (by omega)⟩
          have hP : va_P (dC, dI) kxCl (xU cI cB cE o rL9 nL9 zL9 FL9 G (Eo 0 0) ++ eP cI N Eo ErL9 EnL9 EzL9 EFL9) H := hP
          refine xk_pure (va_runV (As := [.int (iz k)]) (rest := [.ref (o 15)]) ⟨hx, hb, hml, hown, hts⟩ (y_known l dC dI cI cB cE o rL9 nL9 zL9 FL9 G N Eo ErL9 EnL9 EzL9 EFL9 k H.size hRLL9.1 hxG9 hRLL9.2.2.1 (by omega) (by omega)) (cwV 1 hts (kx_gV kq_18_xrows_8 kq_18_xrows_9 kq_18_xrows_10 kq_18_xrows_4 kq_18_xrows_11 rfl) rfl rfl rfl (by decide +kernel) ⟨Nat.le_of_ble_eq_true rfl, Nat.le_of_ble_eq_true rfl⟩) ⟨pPre_blind, va_recv hK hP (ci := 5) (q0 := 0) rfl rfl, pPre_give hP hK hG⟩ rfl rfl hl.1 rfl (lv_room (Nat.le_of_ble_eq_true rfl)) dX5_findSeen_29 ⟨show cv + 0 ≤ 260 from (by omega), show sv + 0 ≤ 110000 from (by omega)⟩) hS (fun z_14 locs hq_13 hS => ?_)
          refine W.eq (g2 := F0 m 32 ls [.ref z_14.toNat, .ref (o 15)]) rfl ?_
          try dsimp only at hq_13
          obtain ⟨j15, hj15, ez15, hje15⟩ := hq_13
          subst ez15
          refine W.eq (g2 := F0 m 32 ls [.ref (Eo j15 0), .ref (o 15)]) rfl ?_
          have hP := eP_foc hj15 hP
          have hD := eD_foc hj15 hD
          refine va_getN (D := (dC, dI)) (ci := 0) (v := .ref (Eo j15 4)) (C := RX0) (T := TX0) (N := 12) hx hb hts kt_X0 hown hK hP 29 rfl rfl 6 (by decide) (va_Nw.use rfl (kx_nf hG kq_19_xouts_32)) (fun _ h9 => h9) rfl dX5_findSeen_32 ?_
          have hP := eP_un0 hj15 hP
          have hD := eD_un0 hj15 hD
          have hxG9 : xG N (zL9 12) G Eo := ⟨by omega, by omega, by omega, fun e9 h9 => hN4 e9 (by omega)⟩
          have hP : va_P (dC, dI) kxCl (xU cI cB cE o rL9 nL9 zL9 FL9 G (Eo 0 0) ++ eP cI N Eo ErL9 EnL9 EzL9 EFL9) H := hP
          have hD : va_D A (xU cI cB cE o rL9 nL9 zL9 FL9 G (Eo 0 0) ++ eP cI N Eo ErL9 EnL9 EzL9 EFL9) := hD
          have hFc := xw_free hD hS hA
          refine xk_call (va_runV (As := [.ref (Eo j15 4)]) (rest := []) ⟨hx, hb, hml, hown, hts⟩ (y_addSeenOf l dC dI cI cB cE o rL9 nL9 zL9 FL9 G N Eo ErL9 EnL9 EzL9 EFL9 j15 H.size hRLL9.1 hxG9 hRLL9.2.2.1 hj15) (cwV 1 hts (kx_gV kq_19_xouts_33 kq_19_xouts_34 kq_19_xouts_35 kq_18_xrows_4 kq_19_xouts_36 rfl) rfl rfl rfl (by decide +kernel) ⟨Nat.le_of_ble_eq_true rfl, Nat.le_of_ble_eq_true rfl⟩) ⟨kx_blind, va_recv hK hP (ci := 5) (q0 := 0) rfl rfl, kx_give (ws := []) (tys := []) hP hD hK hG hZ hS hFc⟩ rfl rfl hl.1 rfl (lv_room (Nat.le_of_ble_eq_true rfl)) dX5_findSeen_35 ⟨show cv + 150 ≤ 260 from (by omega), show sv + 60000 ≤ 110000 from (by omega)⟩) hS (fun q _ h => hFc q h) hFc (fun u dn_18 dm_19 t H locs ht hvm hq_16 hB hk1 hS => ?_)
          obtain ⟨r_20, n_21, z_22, F_23, Er_24, En_25, Ez_26, EF_27⟩ := u
          obtain ⟨hP, hK1, hD1⟩ := hB
          rw [ht] at hP
          have hD := hD1.weaken (fun _ q _ h => hFc _ h)
          obtain ⟨hR28, hC28, hq_16⟩ := hq_16
          have hok28 := hR28.1
          have hfr28 := hRLL9.2.1.tr (hR28.2.1.mono (S' := [2]) (T' := [2]) (by decide) (by decide))
          have hPE28 := hR28.2.2.1
          have hef28 := hRLL9.2.2.2.tr (hR28.2.2.2.mono (S' := []) (T' := []) (by decide) (by decide))
          have hz28 : z_22 12 = (zL9 12) := hR28.2.1.1 12 (by decide)
          refine W.eq (g2 := F0 m 38 ls []) rfl ?_
          try dsimp only at hq_16
          refine lv_iinc (v := iz (k + 1)) (lv' := [(2, .int (iz (k + 1))), (0, .ref (o 15)), (1, .int (iz p0))]) hx hb dX5_findSeen_38 hl (k := 0) rfl (iz_add k 1) (by decide) rfl (fun ls hl => ?_)
          refine lv_goto (tgt := 9) hx hb dX5_findSeen_41 (by decide) ?_
          exact ih9 (k + 1) r_20 n_21 z_22 F_23 Er_24 En_25 Ez_26 EF_27 (cv + dn_18) (sv + dm_19) ⟨⟨hok28, hfr28, hPE28, hef28⟩, ⟨by omega, by omega⟩, (show z_22 12 = z 12 by omega), by omega⟩ (by omega) _ _ hP hD hS ls (lv_sub hl [0, 1, 2] rfl)
  exact lp9 _ 0 r (va_up n 2 (n 2)) (va_up z 2 z_5) (va_up F 2 (F 2)) Er En Ez EF (0 + 0) (0 + 0) ⟨⟨hok7, hfr7, hPE, hef⟩, ⟨by omega, by omega⟩, (show z 12 = z 12 by omega), by omega⟩ (Nat.lt_succ_self _) _ _ hP hD hS ls (lv_sub hl [0, 1, 2] rfl)
set_option maxHeartbeats 4000000 in
set_option maxRecDepth 100000 in
theorem y_countByRows (l : Launch) (dC : Nat → ClassId) (dI : Nat → Nat → Nat) (cI cB cE : ClassId) (o r n : Nat → Nat) (z : Nat → Int) (F : Nat → Int → Int) (G : Nat → Option Nat) (N : Nat) (Eo Er En : Nat → Nat → Nat) (Ez : Nat → Nat → Int) (EF : Nat → Nat → Int → Int) (sz : Nat) (hok : xOk n z F) (hxG : xG N (z 12) G Eo) (hPE : eA N En Ez EF) : Met l yX5_countByRows [.code yX5_countByRows cX5_countByRows 4 none] ({ frames := 3, cells := 100, slots := 42000, locals := 64 }) (va_Pc [.ref (o 15)] (kx_Pre dC dI (xU cI cB cE o r n z F G (Eo 0 0) ++ eP cI N Eo Er En Ez EF) (xT cI cB cE) sz)) (xQ (fun _ : (Nat → Nat) × (Nat → Nat) × (Nat → Int) × (Nat → Int → Int) × (Nat → Nat → Nat) × (Nat → Nat → Nat) × (Nat → Nat → Int) × (Nat → Nat → Int → Int) => none) (fun (u : (Nat → Nat) × (Nat → Nat) × (Nat → Int) × (Nat → Int → Int) × (Nat → Nat → Nat) × (Nat → Nat → Nat) × (Nat → Nat → Int) × (Nat → Nat → Int → Int)) (dn dm : Nat) => match u with | (r', n', z', F', Er', En', Ez', EF') => xR [] [] [11, 12, 13] [] N z F En Ez EF n' z' F' En' Ez' EF' ∧ (dn + xg n' ≤ xg n + 0 ∧ dm + xp n' ≤ xp n + 0) ∧ (True)) (fun u t => kx_At dC dI (va_A (xU cI cB cE o r n z F G (Eo 0 0) ++ eP cI N Eo Er En Ez EF) sz) ((fun u : (Nat → Nat) × (Nat → Nat) × (Nat → Int) × (Nat → Int → Int) × (Nat → Nat → Nat) × (Nat → Nat → Nat) × (Nat → Nat → Int) × (Nat → Nat → Int → Int) => match u with | (r', n', z', F', Er', En', Ez', EF') => (xU cI cB cE o r' n' z' F' G (Eo 0 0) ++ eP cI N Eo Er' En' Ez' EF')) u) (xT cI cB cE) t) (va_A (xU cI cB cE o r n z F G (Eo 0 0) ++ eP cI N Eo Er En Ez EF) sz)) 100 42000 (va_A (xU cI cB cE o r n z F G (Eo 0 0) ++ eP cI N Eo Er En Ez EF) sz) := by
  refine Met.ofW (cc := cX5_countByRows) (maxL := 4) (ret := none) (by decide) rfl ?_
  intro p e s m args below meth c s₁ B hml hv
  obtain ⟨rfl, hsz, hP, hK, hD0, hG, hZ⟩ := hv
  have hx := B.exec
  have hb := B.bytes
  have hr := B.returns
  have hts := kx_hts (a := ([.ref (o 15)] : List Value).toArray) hG
  have hown : s.vm.findClass RX5 = some m.cls := findClass_of_methodNamed B.named
  have hlocks := B.notSynchronized
  subst hsz
  have hD := hD0.self (sz := s.heap.size)
  generalize hAe : va_A (xU cI cB cE o r n z F G (Eo 0 0) ++ eP cI N Eo Er En Ez EF) s.heap.size = A at hD hZ ⊢
  have hA : ∀ q : Nat, s.heap.size ≤ q → A q := fun q h => by rw [← hAe]; exact Or.inr h
  have hS : va_S A s.heap s.heap [] := va_S.rf
  have hl := lv_entry ([.ref (o 15)]) (n := 4) (Nat.le_of_ble_eq_true rfl)
  rw [lg_entry_eq]
  generalize (lg_sl ([.ref (o 15)]) ++ List.replicate (4 - (lg_sl ([.ref (o 15)])).length) Slot.unset).toArray = ls at hl ⊢
  obtain ⟨hN1, hN2, hN3, hN4⟩ := hxG
  have hef : eFr [11, 12, 13] [] En Ez EF En Ez EF := eFr.rf
  have hfr : xFr [] [] z F z F := xFr.rf
  have hxgl := xg_le n
  have hxpl := xp_le n
  have hl : lv_has ls 4 [(0, .ref (o 15))] := hl
  generalize hQe : MQ below (xQ (fun _ : (Nat → Nat) × (Nat → Nat) × (Nat → Int) × (Nat → Int → Int) × (Nat → Nat → Nat) × (Nat → Nat → Nat) × (Nat → Nat → Int) × (Nat → Nat → Int → Int) => none) (fun (u : (Nat → Nat) × (Nat → Nat) × (Nat → Int) × (Nat → Int → Int) × (Nat → Nat → Nat) × (Nat → Nat → Nat) × (Nat → Nat → Int) × (Nat → Nat → Int → Int)) (dn dm : Nat) => match u with | (r', n', z', F', Er', En', Ez', EF') => xR [] [] [11, 12, 13] [] N z F En Ez EF n' z' F' En' Ez' EF' ∧ (dn + xg n' ≤ xg n + 0 ∧ dm + xp n' ≤ xp n + 0) ∧ (True)) (fun u t => kx_At dC dI A ((fun u : (Nat → Nat) × (Nat → Nat) × (Nat → Int) × (Nat → Int → Int) × (Nat → Nat → Nat) × (Nat → Nat → Nat) × (Nat → Nat → Int) × (Nat → Nat → Int → Int) => match u with | (r', n', z', F', Er', En', Ez', EF') => (xU cI cB cE o r' n' z' F' G (Eo 0 0) ++ eP cI N Eo Er' En' Ez' EF')) u) (xT cI cB cE) t) A) ([.ref (o 15)] : List Value).toArray s 100 42000 A = QQ
  refine lv_iconst (v := iz 0) hx hb dX5_countByRows_0 (by decide) ?_
  refine lv_istore_n (lv' := [(1, .int (iz 0)), (0, .ref (o 15))]) hx hb dX5_countByRows_1 rfl hl (by decide) rfl (fun ls hl => ?_)
  have lp2 : ∀ (n0 : Nat) (k : Int) (rL2 : Nat → Nat) (nL2 : Nat → Nat) (zL2 : Nat → Int) (FL2 : Nat → Int → Int) (ErL2 : Nat → Nat → Nat) (EnL2 : Nat → Nat → Nat) (EzL2 : Nat → Nat → Int) (EFL2 : Nat → Nat → Int → Int) (cv : Nat) (sv : Nat), ((xR [] [] [11, 12, 13] [] N z F En Ez EF nL2 zL2 FL2 EnL2 EzL2 EFL2) ∧ (cv + xg nL2 ≤ xg n + (0) ∧ sv + xp nL2 ≤ xp n + (0)) ∧ (zL2 12 = z 12) ∧ (0 ≤ k ∧ k ≤ 79)) → (z 12 - k).toNat < n0 → ∀ (H : Heap) (locs : List Loc), va_P (dC, dI) kxCl ((xU cI cB cE o rL2 nL2 zL2 FL2 G (Eo 0 0)) ++ (eP cI N Eo ErL2 EnL2 EzL2 EFL2)) H → va_D A ((xU cI cB cE o rL2 nL2 zL2 FL2 G (Eo 0 0)) ++ (eP cI N Eo ErL2 EnL2 EzL2 EFL2)) → va_S A s.heap H locs → ∀ ls : Array Slot, lv_has ls 4 [(1, .int (iz k)), (0, .ref (o 15))] → W p l e (headSpec [.code yX5_countByRows cX5_countByRows 4 none] ({ frames := 3, cells := 100, slots := 42000, locals := 64 })).room s m ([.ref (o 15)] : List Value).toArray below meth c H locs cv sv QQ (F0 m 2 ls []) := by
    intro n0
    induction n0 with
    | zero => intro k rL2 nL2 zL2 FL2 ErL2 EnL2 EzL2 EFL2 cv sv hinv hm0; exact absurd hm0 (Nat.not_lt_zero _)
    | succ n0 ih2 =>
      intro k rL2 nL2 zL2 FL2 ErL2 EnL2 EzL2 EFL2 cv sv hinv hm0 H locs hP hD hS ls hl
      obtain ⟨hRLL2, hCLL2, hZLL2, hk⟩ := hinv
      refine lv_iload_n hx hb dX5_countByRows_2 rfl (lv_at hl 0 rfl) ?_
      refine lv_aload_n hx hb dX5_countByRows_3 rfl (lv_at hl 1 rfl) ?_
      have hxz_1 : -2147483648 ≤ zL2 12 ∧ zL2 12 < 2147483648 := hRLL2.1.2.2.2.1 12
      refine va_get (D := (dC, dI)) (ci := 5) (v := .int (iz (zL2 12))) (C := RX5) (T := TX5) (N := 16) hx hb hts kt_X5 hown hK hP 0 rfl rfl 2 (by decide) (kx_word hG kq_18_xrows_0 rfl) (fun _ h9 => h9) rfl dX5_countByRows_4 ?_
      refine ki_icmp_ge (tgt := 24) hx hb dX5_countByRows_7 (by decide) (by omega) (by omega) (by omega) (by omega) (fun c_2 => ?_) (fun c_2 => ?_)
      · skip
        refine lv_iconst (v := iz 0) hx hb dX5_countByRows_24 (by decide) ?_
        refine lv_istore_n (lv' := [(1, .int (iz 0)), (0, .ref (o 15))]) hx hb dX5_countByRows_25 rfl hl (by decide) rfl (fun ls hl => ?_)
        have lp26 : ∀ (n0 : Nat) (k : Int) (rL26 : Nat → Nat) (nL26 : Nat → Nat) (zL26 : Nat → Int) (FL26 : Nat → Int → Int) (ErL26 : Nat → Nat → Nat) (EnL26 : Nat → Nat → Nat) (EzL26 : Nat → Nat → Int) (EFL26 : Nat → Nat → Int → Int) (cv : Nat) (sv : Nat), ((xR [] [] [11, 12, 13] [] N z F En Ez EF nL26 zL26 FL26 EnL26 EzL26 EFL26) ∧ (cv + xg nL26 ≤ xg n + (0) ∧ sv + xp nL26 ≤ xp n + (0)) ∧ (zL26 12 = z 12) ∧ (0 ≤ k ∧ k ≤ 79)) → (z 12 - k).toNat < n0 → ∀ (H : Heap) (locs : List Loc), va_P (dC, dI) kxCl ((xU cI cB cE o rL26 nL26 zL26 FL26 G (Eo 0 0)) ++ (eP cI N Eo ErL26 EnL26 EzL26 EFL26)) H → va_D A ((xU cI cB cE o rL26 nL26 zL26 FL26 G (Eo 0 0)) ++ (eP cI N Eo ErL26 EnL26 EzL26 EFL26)) → va_S A s.heap H locs → ∀ ls : Array Slot, lv_has ls 4 [(1, .int (iz k)), (0, .ref (o 15))] → W p l e (headSpec [.code yX5_countByRows cX5_countByRows 4 none] ({ frames := 3, cells := 100, slots := 42000, locals := 64 })).room s m ([.ref (o 15)] : List Value).toArray below meth c H locs cv sv QQ (F0 m 26 ls []) := by
          intro n0
          induction n0 with
          | zero => intro k rL26 nL26 zL26 FL26 ErL26 EnL26 EzL26 EFL26 cv sv hinv hm0; exact absurd hm0 (Nat.not_lt_zero _)
          | succ n0 ih26 =>
            intro k rL26 nL26 zL26 FL26 ErL26 EnL26 EzL26 EFL26 cv sv hinv hm0 H locs hP hD hS ls hl
            obtain ⟨hRLL26, hCLL26, hZLL26, hk⟩ := hinv
            refine lv_iload_n hx hb dX5_countByRows_26 rfl (lv_at hl 0 rfl) ?_
            refine lv_aload_n hx hb dX5_countByRows_27 rfl (lv_at hl 1 rfl) ?_
            have hxz_3 : -2147483648 ≤ zL26 12 ∧ zL26 12 < 2147483648 := hRLL26.1.2.2.2.1 12
            refine va_get (D := (dC, dI)) (ci := 5) (v := .int (iz (zL26 12))) (C := RX5) (T := TX5) (N := 16) hx hb hts kt_X5 hown hK hP 0 rfl rfl 2 (by decide) (kx_word hG kq_18_xrows_0 rfl) (fun _ h9 => h9) rfl dX5_countByRows_28 ?_
            refine ki_icmp_ge (tgt := 119) hx hb dX5_countByRows_31 (by decide) (by omega) (by omega) (by omega) (by omega) (fun c_4 => ?_) (fun c_4 => ?_)
            · skip
              rw [← hQe]
              exact xk_vret (ov := (fun _ : (Nat → Nat) × (Nat → Nat) × (Nat → Int) × (Nat → Int → Int) × (Nat → Nat → Nat) × (Nat → Nat → Nat) × (Nat → Nat → Int) × (Nat → Nat → Int → Int) => none)) (post := (fun (u : (Nat → Nat) × (Nat → Nat) × (Nat → Int) × (Nat → Int → Int) × (Nat → Nat → Nat) × (Nat → Nat → Nat) × (Nat → Nat → Int) × (Nat → Nat → Int → Int)) (dn dm : Nat) => match u with | (r', n', z', F', Er', En', Ez', EF') => xR [] [] [11, 12, 13] [] N z F En Ez EF n' z' F' En' Ez' EF' ∧ (dn + xg n' ≤ xg n + 0 ∧ dm + xp n' ≤ xp n + 0) ∧ (True))) (ws := (fun u : (Nat → Nat) × (Nat → Nat) × (Nat → Int) × (Nat → Int → Int) × (Nat → Nat → Nat) × (Nat → Nat → Nat) × (Nat → Nat → Int) × (Nat → Nat → Int → Int) => match u with | (r', n', z', F', Er', En', Ez', EF') => (xU cI cB cE o r' n' z' F' G (Eo 0 0) ++ eP cI N Eo Er' En' Ez' EF'))) (tys := xT cI cB cE) (rL26, nL26, zL26, FL26, ErL26, EnL26, EzL26, EFL26) hx hb hr hlocks rfl hP hD hK hS dX5_countByRows_119 (fun dn dm hdn hdm => ⟨⟨hRLL26.1, hRLL26.2.1, hRLL26.2.2.1, hRLL26.2.2.2⟩, ⟨by omega, by omega⟩, trivial⟩) (by omega) (by omega)
            · skip
              refine lv_aload_n hx hb dX5_countByRows_34 rfl (lv_at hl 1 rfl) ?_
              refine lv_iload_n hx hb dX5_countByRows_35 rfl (lv_at hl 0 rfl) ?_
              have hxG9 : xG N (zL26 12) G Eo := ⟨by omega, by omega, by omega, fun e9 h9 => hN4 e9 (by omega)⟩
              have hP : va_P (dC, dI) kxCl (xU cI cB cE o rL26 nL26 zL26 FL26 G (Eo 0 0) ++ eP cI N Eo ErL26 EnL26 EzL26 EFL26) H := hP
              refine xk_pure (va_runV (As := [.int (iz k)]) (rest := []) ⟨hx, hb, hml, hown, hts⟩ (y_known l dC dI cI cB cE o rL26 nL26 zL26 FL26 G N Eo ErL26 EnL26 EzL26 EFL26 k H.size hRLL26.1 hxG9 hRLL26.2.2.1 (by omega) (by omega)) (cwV 1 hts (kx_gV kq_18_xrows_8 kq_18_xrows_9 kq_18_xrows_10 kq_18_xrows_4 kq_18_xrows_11 rfl) rfl rfl rfl (by decide +kernel) ⟨Nat.le_of_ble_eq_true rfl, Nat.le_of_ble_eq_true rfl⟩) ⟨pPre_blind, va_recv hK hP (ci := 5) (q0 := 0) rfl rfl, pPre_give hP hK hG⟩ rfl rfl hl.1 rfl (lv_room (Nat.le_of_ble_eq_true rfl)) dX5_countByRows_36 ⟨show cv + 0 ≤ 100 from (by omega), show sv + 0 ≤ 42000 from (by omega)⟩) hS (fun z_6 locs hq_5 hS => ?_)
              refine W.eq (g2 := F0 m 39 ls [.ref z_6.toNat]) rfl ?_
              try dsimp only at hq_5
              obtain ⟨j7, hj7, ez7, hje7⟩ := hq_5
              subst ez7
              refine W.eq (g2 := F0 m 39 ls [.ref (Eo j7 0)]) rfl ?_
              refine lv_astore_n (lv' := [(2, .ref (Eo j7 0)), (1, .int (iz k)), (0, .ref (o 15))]) hx hb dX5_countByRows_39 rfl hl (by decide) rfl (fun ls hl => ?_)
              refine lv_aload_n hx hb dX5_countByRows_40 rfl (lv_at hl 2 rfl) ?_
              refine lv_aload_n hx hb dX5_countByRows_41 rfl (lv_at hl 0 rfl) ?_
              have hP := eP_foc hj7 hP
              have hD := eD_foc hj7 hD
              have hez_8 : -2147483648 ≤ EzL26 j7 10 ∧ EzL26 j7 10 < 2147483648 := (hRLL26.2.2.1 j7 hj7).2.2 10
              refine va_getN (D := (dC, dI)) (ci := 0) (v := .int (iz (EzL26 j7 10))) (C := RX0) (T := TX0) (N := 12) hx hb hts kt_X0 hown hK hP 29 rfl rfl 8 (by decide) (va_Nw.use rfl (kx_nf hG kq_18_xrows_13)) (fun _ h9 => h9) rfl dX5_countByRows_42 ?_
              have hP := eP_un0 hj7 hP
              have hD := eD_un0 hj7 hD
              have hxG9 : xG N (zL26 12) G Eo := ⟨by omega, by omega, by omega, fun e9 h9 => hN4 e9 (by omega)⟩
              have hP : va_P (dC, dI) kxCl (xU cI cB cE o rL26 nL26 zL26 FL26 G (Eo 0 0) ++ eP cI N Eo ErL26 EnL26 EzL26 EFL26) H := hP
              refine xk_pure (va_runV (As := [.int (iz (EzL26 j7 10))]) (rest := []) ⟨hx, hb, hml, hown, hts⟩ (y_known l dC dI cI cB cE o rL26 nL26 zL26 FL26 G N Eo ErL26 EnL26 EzL26 EFL26 (EzL26 j7 10) H.size hRLL26.1 hxG9 hRLL26.2.2.1 (by omega) (by omega)) (cwV 1 hts (kx_gV kq_18_xrows_8 kq_18_xrows_9 kq_18_xrows_10 kq_18_xrows_4 kq_18_xrows_11 rfl) rfl rfl rfl (by decide +kernel) ⟨Nat.le_of_ble_eq_true rfl, Nat.le_of_ble_eq_true rfl⟩) ⟨pPre_blind, va_recv hK hP (ci := 5) (q0 := 0) rfl rfl, pPre_give hP hK hG⟩ rfl rfl hl.1 rfl (lv_room (Nat.le_of_ble_eq_true rfl)) dX5_countByRows_45 ⟨show cv + 0 ≤ 100 from (by omega), show sv + 0 ≤ 42000 from (by omega)⟩) hS (fun z_10 locs hq_9 hS => ?_)
              refine W.eq (g2 := F0 m 48 ls [.ref z_10.toNat]) rfl ?_
              try dsimp only at hq_9
              obtain ⟨j11, hj11, ez11, hje11⟩ := hq_9
              subst ez11
              refine W.eq (g2 := F0 m 48 ls [.ref (Eo j11 0)]) rfl ?_
              refine lv_astore_n (lv' := [(3, .ref (Eo j11 0)), (2, .ref (Eo j7 0)), (1, .int (iz k)), (0, .ref (o 15))]) hx hb dX5_countByRows_48 rfl hl (by decide) rfl (fun ls hl => ?_)
              refine lv_aload_n hx hb dX5_countByRows_49 rfl (lv_at hl 0 rfl) ?_
              refine lv_dup hx hb dX5_countByRows_50 rfl ?_
              have hP := eP_foc hj11 hP
              have hD := eD_foc hj11 hD
              have hez_12 : -2147483648 ≤ EzL26 j11 11 ∧ EzL26 j11 11 < 2147483648 := (hRLL26.2.2.1 j11 hj11).2.2 11
              refine va_getN (D := (dC, dI)) (ci := 0) (v := .int (iz (EzL26 j11 11))) (C := RX0) (T := TX0) (N := 12) hx hb hts kt_X0 hown hK hP 29 rfl rfl 9 (by decide) (va_Nw.use rfl (kx_nf hG kq_19_xouts_37)) (fun _ h9 => h9) rfl dX5_countByRows_51 ?_
              refine lv_aload_n hx hb dX5_countByRows_54 rfl (lv_at hl 1 rfl) ?_
              have hP := eP_un0 hj11 hP
              have hD := eD_un0 hj11 hD
              have hP := eP_foc hj7 hP
              have hD := eD_foc hj7 hD
              refine va_getN (D := (dC, dI)) (ci := 0) (v := .ref (Eo j7 5)) (C := RX0) (T := TX0) (N := 12) hx hb hts kt_X0 hown hK hP 29 rfl rfl 5 (by decide) (va_Nw.use rfl (kx_nf hG kq_19_xouts_22)) (fun _ h9 => h9) rfl dX5_countByRows_55 ?_
              have he_13 : 0 ≤ EzL26 j7 4 ∧ EzL26 j7 4 ≤ ((EnL26 j7 4 : Nat) : Int) ∧ ((EnL26 j7 4 : Nat) : Int) ≤ 20 := (hRLL26.2.2.1 j7 hj7).1 4 (by decide)
              have he_14 : 0 ≤ EzL26 j7 5 ∧ EzL26 j7 5 ≤ ((EnL26 j7 5 : Nat) : Int) ∧ ((EnL26 j7 5 : Nat) : Int) ≤ 20 := (hRLL26.2.2.1 j7 hj7).1 5 (by decide)
              have he_15 : 0 ≤ EzL26 j7 6 ∧ EzL26 j7 6 ≤ ((EnL26 j7 6 : Nat) : Int) ∧ ((EnL26 j7 6 : Nat) : Int) ≤ 20 := (hRLL26.2.2.1 j7 hj7).1 6 (by decide)
              have hPc := hP.sub (ws' := (sU cI 20 (Eo j7 5) (Eo j7 6) (Eo j7 7) (Eo j7 8) (ErL26 j7 4) (ErL26 j7 5) (ErL26 j7 6) (EnL26 j7 4) (EnL26 j7 5) (EnL26 j7 6) (EzL26 j7 4) (EzL26 j7 5) (EzL26 j7 6) (EFL26 j7 4) (EFL26 j7 5) (EFL26 j7 6))) [38, 39, 40, 41, 42, 43, 44] rfl
              refine xk_pure (va_runV (As := []) (rest := [.int (iz (EzL26 j11 11)), .ref (Eo j11 0)]) ⟨hx, hb, hml, hown, hts⟩ (x_ssize l dC dI cI cB cE 20 (Eo j7 5) (Eo j7 6) (Eo j7 7) (Eo j7 8) (ErL26 j7 4) (ErL26 j7 5) (ErL26 j7 6) (EnL26 j7 4) (EnL26 j7 5) (EnL26 j7 6) (EzL26 j7 4) (EzL26 j7 5) (EzL26 j7 6) (EFL26 j7 4) (EFL26 j7 5) (EFL26 j7 6)  H.size ) (cwV 0 hts (kx_gV kq_19_xouts_3 kq_15_xspan_51 kq_15_xspan_52 kq_15_xspan_53 kq_15_xspan_54 rfl) rfl rfl rfl (by decide +kernel) ⟨Nat.le_of_ble_eq_true rfl, Nat.le_of_ble_eq_true rfl⟩) ⟨pPre_blind, va_recv hK hPc (ci := 3) (q0 := 0) rfl rfl, pPre_give hPc hK hG⟩ rfl rfl hl.1 rfl (lv_room (Nat.le_of_ble_eq_true rfl)) dX5_countByRows_58 ⟨show cv + 0 ≤ 100 from (by omega), show sv + 0 ≤ 42000 from (by omega)⟩) hS (fun z_17 locs hq_16 hS => ?_)
              refine W.eq (g2 := F0 m 61 ls [.int (iz z_17), .int (iz (EzL26 j11 11)), .ref (Eo j11 0)]) rfl ?_
              try dsimp only at hq_16
              have hq_16 := hq_16.symm
              subst hq_16
              refine ki_iadd hx hb dX5_countByRows_61 ?_
              refine ki_any (fun z_18 hz_18a hz_18b => ?_)
              have hP := eP_un0 hj7 hP
              have hD := eD_un0 hj7 hD
              have hP := eP_foc hj11 hP
              have hD := eD_foc hj11 hD
              refine va_putN (D := (dC, dI)) (ci := 0) (v := .int (iz z_18)) (ty := .int) (C := RX0) (T := TX0) (N := 12) hx hb hts kt_X0 tyX0 tyX0_ok nmX0 hown hK hP hD hS 29 rfl rfl 9 (by decide) (va_Nw.use rfl (kx_nf hG kq_19_xouts_37)) (fun _ h9 => h9) rfl (by decide +kernel) rfl rfl (Nat.le_of_ble_eq_true rfl) dX5_countByRows_62 (fun H locs hP hD hS => ?_)
              have hP : va_P (dC, dI) kxCl (((xU cI cB cE o rL26 nL26 zL26 FL26 G (Eo 0 0)) ++ (eU cI (Eo j11) (ErL26 j11) (EnL26 j11) (va_up (EzL26 j11) 11 z_18) (EFL26 j11))) ++ (eR cI N j11 Eo ErL26 EnL26 EzL26 EFL26)) H := hP
              have hD : va_D A (((xU cI cB cE o rL26 nL26 zL26 FL26 G (Eo 0 0)) ++ (eU cI (Eo j11) (ErL26 j11) (EnL26 j11) (va_up (EzL26 j11) 11 z_18) (EFL26 j11))) ++ (eR cI N j11 Eo ErL26 EnL26 EzL26 EFL26)) := hD
              refine lv_aload_n hx hb dX5_countByRows_65 rfl (lv_at hl 0 rfl) ?_
              refine lv_dup hx hb dX5_countByRows_66 rfl ?_
              have hez_19 : -2147483648 ≤ EzL26 j11 12 ∧ EzL26 j11 12 < 2147483648 := (hRLL26.2.2.1 j11 hj11).2.2 12
              refine va_getN (D := (dC, dI)) (ci := 0) (v := .int (iz (EzL26 j11 12))) (C := RX0) (T := TX0) (N := 12) hx hb hts kt_X0 hown hK hP 29 rfl rfl 10 (by decide) (va_Nw.use rfl (kx_nf hG kq_19_xouts_38)) (fun _ h9 => h9) rfl dX5_countByRows_67 ?_
              refine lv_aload_n hx hb dX5_countByRows_70 rfl (lv_at hl 1 rfl) ?_
              have hP : va_P (dC, dI) kxCl (((xU cI cB cE o rL26 nL26 zL26 FL26 G (Eo 0 0)) ++ (eU cI (Eo j11) (ErL26 j11) (EnL26 j11) (va_up (EzL26 j11) 11 z_18) (EFL26 j11))) ++ (eR cI N j11 Eo ErL26 EnL26 EzL26 EFL26)) H := hP
              have hD : va_D A (((xU cI cB cE o rL26 nL26 zL26 FL26 G (Eo 0 0)) ++ (eU cI (Eo j11) (ErL26 j11) (EnL26 j11) (va_up (EzL26 j11) 11 z_18) (EFL26 j11))) ++ (eR cI N j11 Eo ErL26 EnL26 EzL26 EFL26)) := hD
              have hP := eP_unf hj11 hP
              have hD := eD_unf hj11 hD
              have hPE20 := hRLL26.2.2.1.up j11 ((hRLL26.2.2.1 j11 hj11).sc 11 (by decide) (show -2147483648 ≤ z_18 by omega) (show z_18 < 2147483648 by omega))
              have hef20 := hRLL26.2.2.2.up j11 (z := (va_up (EzL26 j11) 11 z_18)) (n := (EnL26 j11)) (F := (EFL26 j11)) (fun k hk => (vfr hk _ (by decide) rfl)) (fun k hk => ⟨rfl, rfl⟩)
              generalize eEr20 : va_up ErL26 j11 (ErL26 j11) = Er20 at hP hD
              generalize eEn20 : va_up EnL26 j11 (EnL26 j11) = En20 at hP hD hPE20 hef20
              generalize eEz20 : va_up EzL26 j11 (va_up (EzL26 j11) 11 z_18) = Ez20 at hP hD hPE20 hef20
              generalize eEF20 : va_up EFL26 j11 (EFL26 j11) = EF20 at hP hD hPE20 hef20
              have hP := eP_foc hj7 hP
              have hD := eD_foc hj7 hD
              refine va_getN (D := (dC, dI)) (ci := 0) (v := .ref (Eo j7 4)) (C := RX0) (T := TX0) (N := 12) hx hb hts kt_X0 hown hK hP 29 rfl rfl 6 (by decide) (va_Nw.use rfl (kx_nf hG kq_19_xouts_32)) (fun _ h9 => h9) rfl dX5_countByRows_71 ?_
              have he_21 : 0 ≤ Ez20 j7 3 ∧ Ez20 j7 3 ≤ ((En20 j7 3 : Nat) : Int) ∧ ((En20 j7 3 : Nat) : Int) ≤ 5 := (hPE20 j7 hj7).1 3 (by decide)
              have hPc := hP.sub (ws' := (iU cI 5 (Eo j7 4) (Er20 j7 3) (En20 j7 3) (Ez20 j7 3) (EF20 j7 3))) [36, 37] rfl
              refine xk_pure (va_runV (As := []) (rest := [.int (iz (EzL26 j11 12)), .ref (Eo j11 0)]) ⟨hx, hb, hml, hown, hts⟩ (x_size l dC dI cI cB cE 5 (Eo j7 4) (Er20 j7 3) (En20 j7 3) (Ez20 j7 3) (EF20 j7 3)  H.size ) (cwV 0 hts (kx_gV kq_18_xrows_40 kq_15_xspan_10 kq_15_xspan_11 kq_13_xints_6 kq_15_xspan_12 rfl) rfl rfl rfl (by decide +kernel) ⟨Nat.le_of_ble_eq_true rfl, Nat.le_of_ble_eq_true rfl⟩) ⟨pPre_blind, va_recv hK hPc (ci := 1) (q0 := 0) rfl rfl, pPre_give hPc hK hG⟩ rfl rfl hl.1 rfl (lv_room (Nat.le_of_ble_eq_true rfl)) dX5_countByRows_74 ⟨show cv + 0 ≤ 100 from (by omega), show sv + 0 ≤ 42000 from (by omega)⟩) hS (fun z_23 locs hq_22 hS => ?_)
              refine W.eq (g2 := F0 m 77 ls [.int (iz z_23), .int (iz (EzL26 j11 12)), .ref (Eo j11 0)]) rfl ?_
              try dsimp only at hq_22
              have hq_22 := hq_22.symm
              subst hq_22
              refine ki_iadd hx hb dX5_countByRows_77 ?_
              refine ki_any (fun z_24 hz_24a hz_24b => ?_)
              have hP := eP_un0 hj7 hP
              have hD := eD_un0 hj7 hD
              have hP := eP_foc hj11 hP
              have hD := eD_foc hj11 hD
              refine va_putN (D := (dC, dI)) (ci := 0) (v := .int (iz z_24)) (ty := .int) (C := RX0) (T := TX0) (N := 12) hx hb hts kt_X0 tyX0 tyX0_ok nmX0 hown hK hP hD hS 29 rfl rfl 10 (by decide) (va_Nw.use rfl (kx_nf hG kq_19_xouts_38)) (fun _ h9 => h9) rfl (by decide +kernel) rfl rfl (Nat.le_of_ble_eq_true rfl) dX5_countByRows_78 (fun H locs hP hD hS => ?_)
              have hP : va_P (dC, dI) kxCl (((xU cI cB cE o rL26 nL26 zL26 FL26 G (Eo 0 0)) ++ (eU cI (Eo j11) (Er20 j11) (En20 j11) (va_up (Ez20 j11) 12 z_24) (EF20 j11))) ++ (eR cI N j11 Eo Er20 En20 Ez20 EF20)) H := hP
              have hD : va_D A (((xU cI cB cE o rL26 nL26 zL26 FL26 G (Eo 0 0)) ++ (eU cI (Eo j11) (Er20 j11) (En20 j11) (va_up (Ez20 j11) 12 z_24) (EF20 j11))) ++ (eR cI N j11 Eo Er20 En20 Ez20 EF20)) := hD
              refine lv_aload_n hx hb dX5_countByRows_81 rfl (lv_at hl 3 rfl) ?_
              refine lv_aload_n hx hb dX5_countByRows_82 rfl (lv_at hl 1 rfl) ?_
              have hez_25 : -2147483648 ≤ Ez20 j11 12 ∧ Ez20 j11 12 < 2147483648 := (hPE20 j11 hj11).2.2 12
              have hP : va_P (dC, dI) kxCl (((xU cI cB cE o rL26 nL26 zL26 FL26 G (Eo 0 0)) ++ (eU cI (Eo j11) (Er20 j11) (En20 j11) (va_up (Ez20 j11) 12 z_24) (EF20 j11))) ++ (eR cI N j11 Eo Er20 En20 Ez20 EF20)) H := hP
              have hD : va_D A (((xU cI cB cE o rL26 nL26 zL26 FL26 G (Eo 0 0)) ++ (eU cI (Eo j11) (Er20 j11) (En20 j11) (va_up (Ez20 j11) 12 z_24) (EF20 j11))) ++ (eR cI N j11 Eo Er20 En20 Ez20 EF20)) := hD
              have hP := eP_unf hj11 hP
              have hD := eD_unf hj11 hD
              have hPE26 := hPE20.up j11 ((hPE20 j11 hj11).sc 12 (by decide) (show -2147483648 ≤ z_24 by omega) (show z_24 < 2147483648 by omega))
              have hef26 := hef20.up j11 (z := (va_up (Ez20 j11) 12 z_24)) (n := (En20 j11)) (F := (EF20 j11)) (fun k hk => (vfr hk _ (by decide) rfl)) (fun k hk => ⟨rfl, rfl⟩)
              generalize eEr26 : va_up Er20 j11 (Er20 j11) = Er26 at hP hD
              generalize eEn26 : va_up En20 j11 (En20 j11) = En26 at hP hD hPE26 hef26
              generalize eEz26 : va_up Ez20 j11 (va_up (Ez20 j11) 12 z_24) = Ez26 at hP hD hPE26 hef26
              generalize eEF26 : va_up EF20 j11 (EF20 j11) = EF26 at hP hD hPE26 hef26
              have hP := eP_foc hj7 hP
              have hD := eD_foc hj7 hD
              have hez_27 : -2147483648 ≤ Ez26 j7 8 ∧ Ez26 j7 8 < 2147483648 := (hPE26 j7 hj7).2.2 8
              refine va_getN (D := (dC, dI)) (ci := 0) (v := .int (iz (Ez26 j7 8))) (C := RX0) (T := TX0) (N := 12) hx hb hts kt_X0 hown hK hP 29 rfl rfl 1 (by decide) (va_Nw.use rfl (kx_nf hG kq_18_xrows_14)) (fun _ h9 => h9) rfl dX5_countByRows_83 ?_
              have hP := eP_un0 hj7 hP
              have hD := eD_un0 hj7 hD
              have hxG9 : xG N (zL26 12) G Eo := ⟨by omega, by omega, by omega, fun e9 h9 => hN4 e9 (by omega)⟩
              have hP : va_P (dC, dI) kxCl (xU cI cB cE o rL26 nL26 zL26 FL26 G (Eo 0 0) ++ eP cI N Eo Er26 En26 Ez26 EF26) H := hP
              refine xk_pure (va_runV (As := [.int (iz (Ez26 j7 8))]) (rest := []) ⟨hx, hb, hml, hown, hts⟩ (y_isEntry l dC dI cI cB cE o rL26 nL26 zL26 FL26 G N Eo Er26 En26 Ez26 EF26 (Ez26 j7 8) H.size hRLL26.1 hxG9 hPE26 (by omega) (by omega)) (cwV 1 hts (kx_gV kq_18_xrows_1 kq_18_xrows_2 kq_18_xrows_3 kq_18_xrows_4 kq_18_xrows_5 rfl) rfl rfl rfl (by decide +kernel) ⟨Nat.le_of_ble_eq_true rfl, Nat.le_of_ble_eq_true rfl⟩) ⟨pPre_blind, va_recv hK hP (ci := 5) (q0 := 0) rfl rfl, pPre_give hP hK hG⟩ rfl rfl hl.1 rfl (lv_room (Nat.le_of_ble_eq_true rfl)) dX5_countByRows_86 ⟨show cv + 0 ≤ 100 from (by omega), show sv + 0 ≤ 42000 from (by omega)⟩) hS (fun z_29 locs hq_28 hS => ?_)
              refine W.eq (g2 := F0 m 89 ls [.int (iz z_29)]) rfl ?_
              try dsimp only at hq_28
              rcases hq_28 with ⟨rfl, hq_28⟩ | ⟨rfl, hq_28⟩
              · skip
                refine ki_if_eq (tgt := 113) hx hb dX5_countByRows_89 (by decide) (by omega) (by omega) (fun c_30 => ?_) (fun c_30 => ?_)
                · omega
                · skip
                  refine lv_aload_n hx hb dX5_countByRows_92 rfl (lv_at hl 3 rfl) ?_
                  refine lv_aload_n hx hb dX5_countByRows_93 rfl (lv_at hl 3 rfl) ?_
                  refine lv_aload_n hx hb dX5_countByRows_94 rfl (lv_at hl 1 rfl) ?_
                  have hP := eP_foc hj7 hP
                  have hD := eD_foc hj7 hD
                  refine va_getN (D := (dC, dI)) (ci := 0) (v := .int (iz (Ez26 j7 8))) (C := RX0) (T := TX0) (N := 12) hx hb hts kt_X0 hown hK hP 29 rfl rfl 1 (by decide) (va_Nw.use rfl (kx_nf hG kq_18_xrows_14)) (fun _ h9 => h9) rfl dX5_countByRows_95 ?_
                  have hP := eP_un0 hj7 hP
                  have hD := eD_un0 hj7 hD
                  have hxG9 : xG N (zL26 12) G Eo := ⟨by omega, by omega, by omega, fun e9 h9 => hN4 e9 (by omega)⟩
                  have hP : va_P (dC, dI) kxCl (xU cI cB cE o rL26 nL26 zL26 FL26 G (Eo 0 0) ++ eP cI N Eo Er26 En26 Ez26 EF26) H := hP
                  refine xk_pure (va_runV (As := [.int (iz (Ez26 j7 8))]) (rest := [.ref (o 15)]) ⟨hx, hb, hml, hown, hts⟩ (y_firstOf l dC dI cI cB cE o rL26 nL26 zL26 FL26 G N Eo Er26 En26 Ez26 EF26 (Ez26 j7 8) H.size hRLL26.1 hxG9 hPE26 (by omega) (by omega)) (cwV 1 hts (kx_gV kq_18_xrows_15 kq_18_xrows_16 kq_18_xrows_17 kq_18_xrows_4 kq_18_xrows_18 rfl) rfl rfl rfl (by decide +kernel) ⟨Nat.le_of_ble_eq_true rfl, Nat.le_of_ble_eq_true rfl⟩) ⟨pPre_blind, va_recv hK hP (ci := 5) (q0 := 0) rfl rfl, pPre_give hP hK hG⟩ rfl rfl hl.1 rfl (lv_room (Nat.le_of_ble_eq_true rfl)) dX5_countByRows_98 ⟨show cv + 0 ≤ 100 from (by omega), show sv + 0 ≤ 42000 from (by omega)⟩) hS (fun z_32 locs hq_31 hS => ?_)
                  refine W.eq (g2 := F0 m 101 ls [.int (iz z_32), .ref (o 15)]) rfl ?_
                  try dsimp only at hq_31
                  have hxG9 : xG N (zL26 12) G Eo := ⟨by omega, by omega, by omega, fun e9 h9 => hN4 e9 (by omega)⟩
                  have hP : va_P (dC, dI) kxCl (xU cI cB cE o rL26 nL26 zL26 FL26 G (Eo 0 0) ++ eP cI N Eo Er26 En26 Ez26 EF26) H := hP
                  refine xk_pure (va_runV (As := [.int (iz z_32)]) (rest := []) ⟨hx, hb, hml, hown, hts⟩ (y_known l dC dI cI cB cE o rL26 nL26 zL26 FL26 G N Eo Er26 En26 Ez26 EF26 z_32 H.size hRLL26.1 hxG9 hPE26 (by omega) (by omega)) (cwV 1 hts (kx_gV kq_18_xrows_8 kq_18_xrows_9 kq_18_xrows_10 kq_18_xrows_4 kq_18_xrows_11 rfl) rfl rfl rfl (by decide +kernel) ⟨Nat.le_of_ble_eq_true rfl, Nat.le_of_ble_eq_true rfl⟩) ⟨pPre_blind, va_recv hK hP (ci := 5) (q0 := 0) rfl rfl, pPre_give hP hK hG⟩ rfl rfl hl.1 rfl (lv_room (Nat.le_of_ble_eq_true rfl)) dX5_countByRows_101 ⟨show cv + 0 ≤ 100 from (by omega), show sv + 0 ≤ 42000 from (by omega)⟩) hS (fun z_34 locs hq_33 hS => ?_)
                  refine W.eq (g2 := F0 m 104 ls [.ref z_34.toNat]) rfl ?_
                  try dsimp only at hq_33
                  obtain ⟨j35, hj35, ez35, hje35⟩ := hq_33
                  subst ez35
                  refine W.eq (g2 := F0 m 104 ls [.ref (Eo j35 0)]) rfl ?_
                  refine lv_dup hx hb dX5_countByRows_104 rfl ?_
                  have hP := eP_foc hj35 hP
                  have hD := eD_foc hj35 hD
                  have hez_36 : -2147483648 ≤ Ez26 j35 13 ∧ Ez26 j35 13 < 2147483648 := (hPE26 j35 hj35).2.2 13
                  refine va_getN (D := (dC, dI)) (ci := 0) (v := .int (iz (Ez26 j35 13))) (C := RX0) (T := TX0) (N := 12) hx hb hts kt_X0 hown hK hP 29 rfl rfl 11 (by decide) (va_Nw.use rfl (kx_nf hG kq_19_xouts_39)) (fun _ h9 => h9) rfl dX5_countByRows_105 ?_
                  refine lv_iconst (v := iz 1) hx hb dX5_countByRows_108 (by decide) ?_
                  refine ki_iadd hx hb dX5_countByRows_109 ?_
                  refine ki_any (fun z_37 hz_37a hz_37b => ?_)
                  refine va_putN (D := (dC, dI)) (ci := 0) (v := .int (iz z_37)) (ty := .int) (C := RX0) (T := TX0) (N := 12) hx hb hts kt_X0 tyX0 tyX0_ok nmX0 hown hK hP hD hS 29 rfl rfl 11 (by decide) (va_Nw.use rfl (kx_nf hG kq_19_xouts_39)) (fun _ h9 => h9) rfl (by decide +kernel) rfl rfl (Nat.le_of_ble_eq_true rfl) dX5_countByRows_110 (fun H locs hP hD hS => ?_)
                  have hP : va_P (dC, dI) kxCl (((xU cI cB cE o rL26 nL26 zL26 FL26 G (Eo 0 0)) ++ (eU cI (Eo j35) (Er26 j35) (En26 j35) (va_up (Ez26 j35) 13 z_37) (EF26 j35))) ++ (eR cI N j35 Eo Er26 En26 Ez26 EF26)) H := hP
                  have hD : va_D A (((xU cI cB cE o rL26 nL26 zL26 FL26 G (Eo 0 0)) ++ (eU cI (Eo j35) (Er26 j35) (En26 j35) (va_up (Ez26 j35) 13 z_37) (EF26 j35))) ++ (eR cI N j35 Eo Er26 En26 Ez26 EF26)) := hD
                  refine lv_iinc (v := iz (k + 1)) (lv' := [(1, .int (iz (k + 1))), (3, .ref (Eo j11 0)), (2, .ref (Eo j7 0)), (0, .ref (o 15))]) hx hb dX5_countByRows_113 hl (k := 2) rfl (iz_add k 1) (by decide) rfl (fun ls hl => ?_)
                  refine lv_goto (tgt := 26) hx hb dX5_countByRows_116 (by decide) ?_
                  have hP : va_P (dC, dI) kxCl (((xU cI cB cE o rL26 nL26 zL26 FL26 G (Eo 0 0)) ++ (eU cI (Eo j35) (Er26 j35) (En26 j35) (va_up (Ez26 j35) 13 z_37) (EF26 j35))) ++ (eR cI N j35 Eo Er26 En26 Ez26 EF26)) H := hP
                  have hD : va_D A (((xU cI cB cE o rL26 nL26 zL26 FL26 G (Eo 0 0)) ++ (eU cI (Eo j35) (Er26 j35) (En26 j35) (va_up (Ez26 j35) 13 z_37) (EF26 j35))) ++ (eR cI N j35 Eo Er26 En26 Ez26 EF26)) := hD
                  have hP := eP_unf hj35 hP
                  have hD := eD_unf hj35 hD
                  have hPE38 := hPE26.up j35 ((hPE26 j35 hj35).sc 13 (by decide) (show -2147483648 ≤ z_37 by omega) (show z_37 < 2147483648 by omega))
                  have hef38 := hef26.up j35 (z := (va_up (Ez26 j35) 13 z_37)) (n := (En26 j35)) (F := (EF26 j35)) (fun k hk => (vfr hk _ (by decide) rfl)) (fun k hk => ⟨rfl, rfl⟩)
                  generalize eEr38 : va_up Er26 j35 (Er26 j35) = Er38 at hP hD
                  generalize eEn38 : va_up En26 j35 (En26 j35) = En38 at hP hD hPE38 hef38
                  generalize eEz38 : va_up Ez26 j35 (va_up (Ez26 j35) 13 z_37) = Ez38 at hP hD hPE38 hef38
                  generalize eEF38 : va_up EF26 j35 (EF26 j35) = EF38 at hP hD hPE38 hef38
                  exact ih26 (k + 1) rL26 nL26 zL26 FL26 Er38 En38 Ez38 EF38 cv sv ⟨⟨hRLL26.1, hRLL26.2.1, hPE38, hef38⟩, ⟨by omega, by omega⟩, (show zL26 12 = z 12 by omega), by omega⟩ (by omega) _ _ hP hD hS ls (lv_sub hl [0, 3] rfl)
              · skip
                refine ki_if_eq (tgt := 113) hx hb dX5_countByRows_89 (by decide) (by omega) (by omega) (fun c_39 => ?_) (fun c_39 => ?_)
                · skip
                  refine lv_iinc (v := iz (k + 1)) (lv' := [(1, .int (iz (k + 1))), (3, .ref (Eo j11 0)), (2, .ref (Eo j7 0)), (0, .ref (o 15))]) hx hb dX5_countByRows_113 hl (k := 2) rfl (iz_add k 1) (by decide) rfl (fun ls hl => ?_)
                  refine lv_goto (tgt := 26) hx hb dX5_countByRows_116 (by decide) ?_
                  exact ih26 (k + 1) rL26 nL26 zL26 FL26 Er26 En26 Ez26 EF26 cv sv ⟨⟨hRLL26.1, hRLL26.2.1, hPE26, hef26⟩, ⟨by omega, by omega⟩, (show zL26 12 = z 12 by omega), by omega⟩ (by omega) _ _ hP hD hS ls (lv_sub hl [0, 3] rfl)
                · omega
        exact lp26 _ 0 rL2 nL2 zL2 FL2 ErL2 EnL2 EzL2 EFL2 cv sv ⟨⟨hRLL2.1, hRLL2.2.1, hRLL2.2.2.1, hRLL2.2.2.2⟩, ⟨by omega, by omega⟩, (show zL2 12 = z 12 by omega), by omega⟩ (Nat.lt_succ_self _) _ _ hP hD hS ls (lv_sub hl [0, 1] rfl)
      · skip
        refine lv_aload_n hx hb dX5_countByRows_10 rfl (lv_at hl 1 rfl) ?_
        refine lv_iload_n hx hb dX5_countByRows_11 rfl (lv_at hl 0 rfl) ?_
        have hxG9 : xG N (zL2 12) G Eo := ⟨by omega, by omega, by omega, fun e9 h9 => hN4 e9 (by omega)⟩
        have hP : va_P (dC, dI) kxCl (xU cI cB cE o rL2 nL2 zL2 FL2 G (Eo 0 0) ++ eP cI N Eo ErL2 EnL2 EzL2 EFL2) H := hP
        refine xk_pure (va_runV (As := [.int (iz k)]) (rest := []) ⟨hx, hb, hml, hown, hts⟩ (y_known l dC dI cI cB cE o rL2 nL2 zL2 FL2 G N Eo ErL2 EnL2 EzL2 EFL2 k H.size hRLL2.1 hxG9 hRLL2.2.2.1 (by omega) (by omega)) (cwV 1 hts (kx_gV kq_18_xrows_8 kq_18_xrows_9 kq_18_xrows_10 kq_18_xrows_4 kq_18_xrows_11 rfl) rfl rfl rfl (by decide +kernel) ⟨Nat.le_of_ble_eq_true rfl, Nat.le_of_ble_eq_true rfl⟩) ⟨pPre_blind, va_recv hK hP (ci := 5) (q0 := 0) rfl rfl, pPre_give hP hK hG⟩ rfl rfl hl.1 rfl (lv_room (Nat.le_of_ble_eq_true rfl)) dX5_countByRows_12 ⟨show cv + 0 ≤ 100 from (by omega), show sv + 0 ≤ 42000 from (by omega)⟩) hS (fun z_41 locs hq_40 hS => ?_)
        refine W.eq (g2 := F0 m 15 ls [.ref z_41.toNat]) rfl ?_
        try dsimp only at hq_40
        obtain ⟨j42, hj42, ez42, hje42⟩ := hq_40
        subst ez42
        refine W.eq (g2 := F0 m 15 ls [.ref (Eo j42 0)]) rfl ?_
        have hP := eP_foc hj42 hP
        have hD := eD_foc hj42 hD
        have hPc := hP.sub (ws' := (eU cI (Eo j42) (ErL2 j42) (EnL2 j42) (EzL2 j42) (EFL2 j42))) [29, 30, 31, 32, 33, 34, 35, 36, 37, 38, 39, 40, 41, 42, 43, 44] rfl
        have hDc := hD.sub (ws' := (eU cI (Eo j42) (ErL2 j42) (EnL2 j42) (EzL2 j42) (EFL2 j42))) [29, 30, 31, 32, 33, 34, 35, 36, 37, 38, 39, 40, 41, 42, 43, 44] (by decide) rfl
        have hFc := va_free (wc := (eU cI (Eo j42) (ErL2 j42) (EnL2 j42) (EzL2 j42) (EFL2 j42))) hD hS hA [29, 30, 31, 32, 33, 34, 35, 36, 37, 38, 39, 40, 41, 42, 43, 44] rfl
        refine xk_call (va_runV (As := []) (rest := []) ⟨hx, hb, hml, hown, hts⟩ (x_clearCounts l dC dI cI cB cE (Eo j42) (ErL2 j42) (EnL2 j42) (EzL2 j42) (EFL2 j42)  H.size (hRLL2.2.2.1 j42 hj42)) (cwV 0 hts (kx_gV kq_19_xouts_40 kq_19_xouts_41 kq_19_xouts_42 kq_16_xentry_2 kq_19_xouts_43 rfl) rfl rfl rfl (by decide +kernel) ⟨Nat.le_of_ble_eq_true rfl, Nat.le_of_ble_eq_true rfl⟩) ⟨kx_blind, va_recv hK hPc (ci := 0) (q0 := 0) rfl rfl, kx_give (ws := []) (tys := []) hPc hDc hK hG hZ hS hFc⟩ rfl rfl hl.1 rfl (lv_room (Nat.le_of_ble_eq_true rfl)) dX5_countByRows_15 ⟨show cv + 0 ≤ 100 from (by omega), show sv + 0 ≤ 42000 from (by omega)⟩) hS (fun q _ h => hFc q h) hFc (fun u dn_44 dm_45 t H locs ht hvm hq_43 hB hk1 hS => ?_)
        obtain ⟨z11_46, z12_47, z13_48⟩ := u
        obtain ⟨hP1, hK1, hD1⟩ := hB
        rw [ht] at hP1
        obtain ⟨hP, hD⟩ := xj_pool (wr := [(o 15, .inr (5, [.ref (o 16), .ref (Eo 0 0), .int (iz (zL2 12)), .int (iz (zL2 13)), .int (iz (zL2 14)), .ref (o 0), .ref (o 1), .int (iz (zL2 15)), .ref (o 13), .ref (o 14), .int (iz (zL2 16)), .ref (o 2), .ref (o 12), .ref (o 3), .ref (o 10), .ref (o 11)])), (o 16, .inl (cE, 80, .inr (.inr (.inr (.inr G))))), (o 0, .inr (1, [.int (iz 80), .ref (rL2 0), .int (iz (zL2 0))])), (rL2 0, .inl (cI, nL2 0, .inl (iA (FL2 0)))), (o 1, .inr (1, [.int (iz 80), .ref (rL2 1), .int (iz (zL2 1))])), (rL2 1, .inl (cI, nL2 1, .inl (iA (FL2 1)))), (o 2, .inr (1, [.int (iz 80), .ref (rL2 2), .int (iz (zL2 2))])), (rL2 2, .inl (cI, nL2 2, .inl (iA (FL2 2)))), (o 3, .inr (1, [.int (iz 80), .ref (rL2 3), .int (iz (zL2 3))])), (rL2 3, .inl (cI, nL2 3, .inl (iA (FL2 3)))), (o 13, .inr (3, [.ref (o 4), .ref (o 5), .ref (o 6)])), (o 4, .inr (1, [.int (iz 1600), .ref (rL2 4), .int (iz (zL2 4))])), (rL2 4, .inl (cI, nL2 4, .inl (iA (FL2 4)))), (o 5, .inr (1, [.int (iz 1600), .ref (rL2 5), .int (iz (zL2 5))])), (rL2 5, .inl (cI, nL2 5, .inl (iA (FL2 5)))), (o 6, .inr (1, [.int (iz 1600), .ref (rL2 6), .int (iz (zL2 6))])), (rL2 6, .inl (cI, nL2 6, .inl (iA (FL2 6)))), (o 14, .inr (3, [.ref (o 7), .ref (o 8), .ref (o 9)])), (o 7, .inr (1, [.int (iz 1600), .ref (rL2 7), .int (iz (zL2 7))])), (rL2 7, .inl (cI, nL2 7, .inl (iA (FL2 7)))), (o 8, .inr (1, [.int (iz 1600), .ref (rL2 8), .int (iz (zL2 8))])), (rL2 8, .inl (cI, nL2 8, .inl (iA (FL2 8)))), (o 9, .inr (1, [.int (iz 1600), .ref (rL2 9), .int (iz (zL2 9))])), (rL2 9, .inl (cI, nL2 9, .inl (iA (FL2 9)))), (o 12, .inr (4, [.int (iz (zL2 17)), .int (iz (zL2 18)), .int (iz (zL2 19)), .int (iz (zL2 20)), .int (iz (zL2 21))])), (o 10, .inr (2, [.ref (rL2 10), .int (iz (zL2 10)), .int (iz (zL2 22))])), (rL2 10, .inl (cB, nL2 10, .inl (iA (FL2 10)))), (o 11, .inr (2, [.ref (rL2 11), .int (iz (zL2 11)), .int (iz (zL2 23))])), (rL2 11, .inl (cB, nL2 11, .inl (iA (FL2 11))))]) (w1 := (eU cI (Eo j42) (ErL2 j42) (EnL2 j42) (va_up (va_up (va_up (EzL2 j42) 11 z11_46) 12 z12_47) 13 z13_48) (EFL2 j42))) (ws' := ((xU cI cB cE o rL2 nL2 zL2 FL2 G (Eo 0 0)) ++ (eU cI (Eo j42) (ErL2 j42) (EnL2 j42) (va_up (va_up (va_up (EzL2 j42) 11 z11_46) 12 z12_47) 13 z13_48) (EFL2 j42)))) hP hD [29, 30, 31, 32, 33, 34, 35, 36, 37, 38, 39, 40, 41, 42, 43, 44] [0, 1, 2, 3, 4, 5, 6, 7, 8, 9, 10, 11, 12, 13, 14, 15, 16, 17, 18, 19, 20, 21, 22, 23, 24, 25, 26, 27, 28] [0, 1, 2, 3, 4, 5, 6, 7, 8, 9, 10, 11, 12, 13, 14, 15, 16, 17, 18, 19, 20, 21, 22, 23, 24, 25, 26, 27, 28, 29, 30, 31, 32, 33, 34, 35, 36, 37, 38, 39, 40, 41, 42, 43, 44] rfl rfl (by decide) (by decide) hk1 hFc hP1 hD1 rfl (by decide)
        refine W.eq (g2 := F0 m 18 ls []) rfl ?_
        try dsimp only at hq_43
        obtain ⟨hd49, hm49, hx49, hy49, hz49⟩ := hq_43
        subst hd49
        subst hm49
        refine lv_iinc (v := iz (k + 1)) (lv' := [(1, .int (iz (k + 1))), (0, .ref (o 15))]) hx hb dX5_countByRows_18 hl (k := 0) rfl (iz_add k 1) (by decide) rfl (fun ls hl => ?_)
        refine lv_goto (tgt := 2) hx hb dX5_countByRows_21 (by decide) ?_
        have hez_50 : -2147483648 ≤ EzL2 j42 11 ∧ EzL2 j42 11 < 2147483648 := (hRLL2.2.2.1 j42 hj42).2.2 11
        have hez_51 : -2147483648 ≤ EzL2 j42 12 ∧ EzL2 j42 12 < 2147483648 := (hRLL2.2.2.1 j42 hj42).2.2 12
        have hez_52 : -2147483648 ≤ EzL2 j42 13 ∧ EzL2 j42 13 < 2147483648 := (hRLL2.2.2.1 j42 hj42).2.2 13
        have hP : va_P (dC, dI) kxCl (((xU cI cB cE o rL2 nL2 zL2 FL2 G (Eo 0 0)) ++ (eU cI (Eo j42) (ErL2 j42) (EnL2 j42) (va_up (va_up (va_up (EzL2 j42) 11 z11_46) 12 z12_47) 13 z13_48) (EFL2 j42))) ++ (eR cI N j42 Eo ErL2 EnL2 EzL2 EFL2)) H := hP
        have hD : va_D A (((xU cI cB cE o rL2 nL2 zL2 FL2 G (Eo 0 0)) ++ (eU cI (Eo j42) (ErL2 j42) (EnL2 j42) (va_up (va_up (va_up (EzL2 j42) 11 z11_46) 12 z12_47) 13 z13_48) (EFL2 j42))) ++ (eR cI N j42 Eo ErL2 EnL2 EzL2 EFL2)) := hD
        have hP := eP_unf hj42 hP
        have hD := eD_unf hj42 hD
        have hPE53 := hRLL2.2.2.1.up j42 ((((hRLL2.2.2.1 j42 hj42).sc 11 (by decide) (show -2147483648 ≤ z11_46 by omega) (show z11_46 < 2147483648 by omega)).sc 12 (by decide) (show -2147483648 ≤ z12_47 by omega) (show z12_47 < 2147483648 by omega)).sc 13 (by decide) (show -2147483648 ≤ z13_48 by omega) (show z13_48 < 2147483648 by omega))
        have hef53 := hRLL2.2.2.2.up j42 (z := (va_up (va_up (va_up (EzL2 j42) 11 z11_46) 12 z12_47) 13 z13_48)) (n := (EnL2 j42)) (F := (EFL2 j42)) (fun k hk => (vfr hk _ (by decide) (vfr hk _ (by decide) (vfr hk _ (by decide) rfl)))) (fun k hk => ⟨rfl, rfl⟩)
        generalize eEr53 : va_up ErL2 j42 (ErL2 j42) = Er53 at hP hD
        generalize eEn53 : va_up EnL2 j42 (EnL2 j42) = En53 at hP hD hPE53 hef53
        generalize eEz53 : va_up EzL2 j42 (va_up (va_up (va_up (EzL2 j42) 11 z11_46) 12 z12_47) 13 z13_48) = Ez53 at hP hD hPE53 hef53
        generalize eEF53 : va_up EFL2 j42 (EFL2 j42) = EF53 at hP hD hPE53 hef53
        exact ih2 (k + 1) rL2 nL2 zL2 FL2 Er53 En53 Ez53 EF53 (cv + 0) (sv + 0) ⟨⟨hRLL2.1, hRLL2.2.1, hPE53, hef53⟩, ⟨by omega, by omega⟩, (show zL2 12 = z 12 by omega), by omega⟩ (by omega) _ _ hP hD hS ls (lv_sub hl [0, 1] rfl)
  exact lp2 _ 0 r n z F Er En Ez EF 0 0 ⟨⟨hok, hfr, hPE, hef⟩, ⟨by omega, by omega⟩, (show z 12 = z 12 by omega), by omega⟩ (Nat.lt_succ_self _) _ _ hP hD hS ls (lv_sub hl [0, 1] rfl)
set_option maxHeartbeats 4000000 in
set_option maxRecDepth 100000 in
theorem y_warnOf (l : Launch) (dC : Nat → ClassId) (dI : Nat → Nat → Nat) (cI cB cE : ClassId) (o r n : Nat → Nat) (z : Nat → Int) (F : Nat → Int → Int) (G : Nat → Option Nat) (N : Nat) (Eo Er En : Nat → Nat → Nat) (Ez : Nat → Nat → Int) (EF : Nat → Nat → Int → Int) (p0 : Int) (sz : Nat) (hok : xOk n z F) (hxG : xG N (z 12) G Eo) (hPE : eA N En Ez EF) (hp01 : -2147483648 ≤ p0) (hp02 : p0 < 2147483648) : Met l yX5_warnOf [.code yX5_warnOf cX5_warnOf 5 none] ({ frames := 3, cells := 100, slots := 42000, locals := 64 }) (va_Pc [.ref (o 15), .int (iz p0)] (kx_Pre dC dI (xU cI cB cE o r n z F G (Eo 0 0) ++ eP cI N Eo Er En Ez EF) (xT cI cB cE) sz)) (xQ (fun _ : (Nat → Nat) × (Nat → Nat) × (Nat → Int) × (Nat → Int → Int) × (Nat → Nat → Nat) × (Nat → Nat → Nat) × (Nat → Nat → Int) × (Nat → Nat → Int → Int) => none) (fun (u : (Nat → Nat) × (Nat → Nat) × (Nat → Int) × (Nat → Int → Int) × (Nat → Nat → Nat) × (Nat → Nat → Nat) × (Nat → Nat → Int) × (Nat → Nat → Int → Int)) (dn dm : Nat) => match u with | (r', n', z', F', Er', En', Ez', EF') => xR [17, 18, 19, 20, 21] [] [] [] N z F En Ez EF n' z' F' En' Ez' EF' ∧ (dn + xg n' ≤ xg n + 0 ∧ dm + xp n' ≤ xp n + 0) ∧ (True)) (fun u t => kx_At dC dI (va_A (xU cI cB cE o r n z F G (Eo 0 0) ++ eP cI N Eo Er En Ez EF) sz) ((fun u : (Nat → Nat) × (Nat → Nat) × (Nat → Int) × (Nat → Int → Int) × (Nat → Nat → Nat) × (Nat → Nat → Nat) × (Nat → Nat → Int) × (Nat → Nat → Int → Int) => match u with | (r', n', z', F', Er', En', Ez', EF') => (xU cI cB cE o r' n' z' F' G (Eo 0 0) ++ eP cI N Eo Er' En' Ez' EF')) u) (xT cI cB cE) t) (va_A (xU cI cB cE o r n z F G (Eo 0 0) ++ eP cI N Eo Er En Ez EF) sz)) 100 42000 (va_A (xU cI cB cE o r n z F G (Eo 0 0) ++ eP cI N Eo Er En Ez EF) sz) := by
  refine Met.ofW (cc := cX5_warnOf) (maxL := 5) (ret := none) (by decide) rfl ?_
  intro p e s m args below meth c s₁ B hml hv
  obtain ⟨rfl, hsz, hP, hK, hD0, hG, hZ⟩ := hv
  have hx := B.exec
  have hb := B.bytes
  have hr := B.returns
  have hts := kx_hts (a := ([.ref (o 15), .int (iz p0)] : List Value).toArray) hG
  have hown : s.vm.findClass RX5 = some m.cls := findClass_of_methodNamed B.named
  have hlocks := B.notSynchronized
  subst hsz
  have hD := hD0.self (sz := s.heap.size)
  generalize hAe : va_A (xU cI cB cE o r n z F G (Eo 0 0) ++ eP cI N Eo Er En Ez EF) s.heap.size = A at hD hZ ⊢
  have hA : ∀ q : Nat, s.heap.size ≤ q → A q := fun q h => by rw [← hAe]; exact Or.inr h
  have hS : va_S A s.heap s.heap [] := va_S.rf
  have hl := lv_entry ([.ref (o 15), .int (iz p0)]) (n := 5) (Nat.le_of_ble_eq_true rfl)
  rw [lg_entry_eq]
  generalize (lg_sl ([.ref (o 15), .int (iz p0)]) ++ List.replicate (5 - (lg_sl ([.ref (o 15), .int (iz p0)])).length) Slot.unset).toArray = ls at hl ⊢
  obtain ⟨hN1, hN2, hN3, hN4⟩ := hxG
  have hef : eFr [] [] En Ez EF En Ez EF := eFr.rf
  have hfr : xFr [17, 18, 19, 20, 21] [] z F z F := xFr.rf
  have hxgl := xg_le n
  have hxpl := xp_le n
  have hl : lv_has ls 5 [(0, .ref (o 15)), (1, .int (iz p0))] := hl
  generalize hQe : MQ below (xQ (fun _ : (Nat → Nat) × (Nat → Nat) × (Nat → Int) × (Nat → Int → Int) × (Nat → Nat → Nat) × (Nat → Nat → Nat) × (Nat → Nat → Int) × (Nat → Nat → Int → Int) => none) (fun (u : (Nat → Nat) × (Nat → Nat) × (Nat → Int) × (Nat → Int → Int) × (Nat → Nat → Nat) × (Nat → Nat → Nat) × (Nat → Nat → Int) × (Nat → Nat → Int → Int)) (dn dm : Nat) => match u with | (r', n', z', F', Er', En', Ez', EF') => xR [17, 18, 19, 20, 21] [] [] [] N z F En Ez EF n' z' F' En' Ez' EF' ∧ (dn + xg n' ≤ xg n + 0 ∧ dm + xp n' ≤ xp n + 0) ∧ (True)) (fun u t => kx_At dC dI A ((fun u : (Nat → Nat) × (Nat → Nat) × (Nat → Int) × (Nat → Int → Int) × (Nat → Nat → Nat) × (Nat → Nat → Nat) × (Nat → Nat → Int) × (Nat → Nat → Int → Int) => match u with | (r', n', z', F', Er', En', Ez', EF') => (xU cI cB cE o r' n' z' F' G (Eo 0 0) ++ eP cI N Eo Er' En' Ez' EF')) u) (xT cI cB cE) t) A) ([.ref (o 15), .int (iz p0)] : List Value).toArray s 100 42000 A = QQ
  refine lv_aload_n hx hb dX5_warnOf_0 rfl (lv_at hl 0 rfl) ?_
  refine lv_iload_n hx hb dX5_warnOf_1 rfl (lv_at hl 1 rfl) ?_
  have hxz_1 : -2147483648 ≤ z 12 ∧ z 12 < 2147483648 := hok.2.2.2.1 12
  have hxG9 : xG N (z 12) G Eo := ⟨by omega, by omega, by omega, fun e9 h9 => hN4 e9 (by omega)⟩
  have hP : va_P (dC, dI) kxCl (xU cI cB cE o r n z F G (Eo 0 0) ++ eP cI N Eo Er En Ez EF) s.heap := hP
  refine xk_pure (va_runV (As := [.int (iz p0)]) (rest := []) ⟨hx, hb, hml, hown, hts⟩ (y_known l dC dI cI cB cE o r n z F G N Eo Er En Ez EF p0 s.heap.size hok hxG9 hPE (by omega) (by omega)) (cwV 1 hts (kx_gV kq_18_xrows_8 kq_18_xrows_9 kq_18_xrows_10 kq_18_xrows_4 kq_18_xrows_11 rfl) rfl rfl rfl (by decide +kernel) ⟨Nat.le_of_ble_eq_true rfl, Nat.le_of_ble_eq_true rfl⟩) ⟨pPre_blind, va_recv hK hP (ci := 5) (q0 := 0) rfl rfl, pPre_give hP hK hG⟩ rfl rfl hl.1 rfl (lv_room (Nat.le_of_ble_eq_true rfl)) dX5_warnOf_2 ⟨show 0 + 0 ≤ 100 from (by omega), show 0 + 0 ≤ 42000 from (by omega)⟩) hS (fun z_3 locs hq_2 hS => ?_)
  refine W.eq (g2 := F0 m 5 ls [.ref z_3.toNat]) rfl ?_
  try dsimp only at hq_2
  obtain ⟨j4, hj4, ez4, hje4⟩ := hq_2
  subst ez4
  refine W.eq (g2 := F0 m 5 ls [.ref (Eo j4 0)]) rfl ?_
  refine lv_astore_n (lv' := [(2, .ref (Eo j4 0)), (0, .ref (o 15)), (1, .int (iz p0))]) hx hb dX5_warnOf_5 rfl hl (by decide) rfl (fun ls hl => ?_)
  refine lv_aload_n hx hb dX5_warnOf_6 rfl (lv_at hl 0 rfl) ?_
  have hP := eP_foc hj4 hP
  have hD := eD_foc hj4 hD
  have hez_5 : -2147483648 ≤ Ez j4 9 ∧ Ez j4 9 < 2147483648 := (hPE j4 hj4).2.2 9
  refine va_getN (D := (dC, dI)) (ci := 0) (v := .int (iz (Ez j4 9))) (C := RX0) (T := TX0) (N := 12) hx hb hts kt_X0 hown hK hP 29 rfl rfl 7 (by decide) (va_Nw.use rfl (kx_nf hG kq_19_xouts_44)) (fun _ h9 => h9) rfl dX5_warnOf_7 ?_
  refine ki_if_lt (tgt := 36) hx hb dX5_warnOf_10 (by decide) (by omega) (by omega) (fun c_6 => ?_) (fun c_6 => ?_)
  · skip
    refine lv_iconst (v := iz 0) hx hb dX5_warnOf_36 (by decide) ?_
    refine lv_istore_n (lv' := [(3, .int (iz 0)), (2, .ref (Eo j4 0)), (0, .ref (o 15)), (1, .int (iz p0))]) hx hb dX5_warnOf_37 rfl hl (by decide) rfl (fun ls hl => ?_)
    have hP := eP_un0 hj4 hP
    have hD := eD_un0 hj4 hD
    have lp38 : ∀ (n0 : Nat) (k : Int) (rL38 : Nat → Nat) (nL38 : Nat → Nat) (zL38 : Nat → Int) (FL38 : Nat → Int → Int) (cv : Nat) (sv : Nat), ((xR [17, 18, 19, 20, 21] [] [] [] N z F En Ez EF nL38 zL38 FL38 En Ez EF) ∧ (cv + xg nL38 ≤ xg n + (0) ∧ sv + xp nL38 ≤ xp n + (0)) ∧ (zL38 12 = z 12) ∧ (0 ≤ k ∧ k ≤ 5)) → (Ez j4 3 - k).toNat < n0 → ∀ (H : Heap) (locs : List Loc), va_P (dC, dI) kxCl ((xU cI cB cE o rL38 nL38 zL38 FL38 G (Eo 0 0)) ++ (eP cI N Eo Er En Ez EF)) H → va_D A ((xU cI cB cE o rL38 nL38 zL38 FL38 G (Eo 0 0)) ++ (eP cI N Eo Er En Ez EF)) → va_S A s.heap H locs → ∀ ls : Array Slot, lv_has ls 5 [(3, .int (iz k)), (2, .ref (Eo j4 0)), (0, .ref (o 15)), (1, .int (iz p0))] → W p l e (headSpec [.code yX5_warnOf cX5_warnOf 5 none] ({ frames := 3, cells := 100, slots := 42000, locals := 64 })).room s m ([.ref (o 15), .int (iz p0)] : List Value).toArray below meth c H locs cv sv QQ (F0 m 38 ls []) := by
      intro n0
      induction n0 with
      | zero => intro k rL38 nL38 zL38 FL38 cv sv hinv hm0; exact absurd hm0 (Nat.not_lt_zero _)
      | succ n0 ih38 =>
        intro k rL38 nL38 zL38 FL38 cv sv hinv hm0 H locs hP hD hS ls hl
        obtain ⟨hRLL38, hCLL38, hZLL38, hk⟩ := hinv
        have hs39 : 0 ≤ Ez j4 3 ∧ Ez j4 3 ≤ (En j4 3 : Int) ∧ (En j4 3 : Int) ≤ 5 := (hPE j4 hj4).1 3 (by decide)
        refine lv_iload_n hx hb dX5_warnOf_38 rfl (lv_at hl 0 rfl) ?_
        refine lv_aload_n hx hb dX5_warnOf_39 rfl (lv_at hl 1 rfl) ?_
        have hP := eP_foc hj4 hP
        have hD := eD_foc hj4 hD
        refine va_getN (D := (dC, dI)) (ci := 0) (v := .ref (Eo j4 4)) (C := RX0) (T := TX0) (N := 12) hx hb hts kt_X0 hown hK hP 29 rfl rfl 6 (by decide) (va_Nw.use rfl (kx_nf hG kq_19_xouts_32)) (fun _ h9 => h9) rfl dX5_warnOf_40 ?_
        have he_7 : 0 ≤ Ez j4 3 ∧ Ez j4 3 ≤ ((En j4 3 : Nat) : Int) ∧ ((En j4 3 : Nat) : Int) ≤ 5 := (hRLL38.2.2.1 j4 hj4).1 3 (by decide)
        have hPc := hP.sub (ws' := (iU cI 5 (Eo j4 4) (Er j4 3) (En j4 3) (Ez j4 3) (EF j4 3))) [36, 37] rfl
        refine xk_pure (va_runV (As := []) (rest := [.int (iz k)]) ⟨hx, hb, hml, hown, hts⟩ (x_size l dC dI cI cB cE 5 (Eo j4 4) (Er j4 3) (En j4 3) (Ez j4 3) (EF j4 3)  H.size ) (cwV 0 hts (kx_gV kq_18_xrows_40 kq_15_xspan_10 kq_15_xspan_11 kq_13_xints_6 kq_15_xspan_12 rfl) rfl rfl rfl (by decide +kernel) ⟨Nat.le_of_ble_eq_true rfl, Nat.le_of_ble_eq_true rfl⟩) ⟨pPre_blind, va_recv hK hPc (ci := 1) (q0 := 0) rfl rfl, pPre_give hPc hK hG⟩ rfl rfl hl.1 rfl (lv_room (Nat.le_of_ble_eq_true rfl)) dX5_warnOf_43 ⟨show cv + 0 ≤ 100 from (by omega), show sv + 0 ≤ 42000 from (by omega)⟩) hS (fun z_9 locs hq_8 hS => ?_)
        refine W.eq (g2 := F0 m 46 ls [.int (iz z_9), .int (iz k)]) rfl ?_
        try dsimp only at hq_8
        have hq_8 := hq_8.symm
        subst hq_8
        refine ki_icmp_ge (tgt := 92) hx hb dX5_warnOf_46 (by decide) (by omega) (by omega) (by omega) (by omega) (fun c_10 => ?_) (fun c_10 => ?_)
        · skip
          refine lv_aload_n hx hb dX5_warnOf_92 rfl (lv_at hl 1 rfl) ?_
          have hez_11 : -2147483648 ≤ Ez j4 10 ∧ Ez j4 10 < 2147483648 := (hRLL38.2.2.1 j4 hj4).2.2 10
          refine va_getN (D := (dC, dI)) (ci := 0) (v := .int (iz (Ez j4 10))) (C := RX0) (T := TX0) (N := 12) hx hb hts kt_X0 hown hK hP 29 rfl rfl 8 (by decide) (va_Nw.use rfl (kx_nf hG kq_18_xrows_13)) (fun _ h9 => h9) rfl dX5_warnOf_93 ?_
          refine lv_iload_n hx hb dX5_warnOf_96 rfl (lv_at hl 3 rfl) ?_
          refine ki_icmp_ne (tgt := 117) hx hb dX5_warnOf_97 (by decide) (by omega) (by omega) (by omega) (by omega) (fun c_12 => ?_) (fun c_12 => ?_)
          · skip
            have hP := eP_un0 hj4 hP
            have hD := eD_un0 hj4 hD
            rw [← hQe]
            exact xk_vret (ov := (fun _ : (Nat → Nat) × (Nat → Nat) × (Nat → Int) × (Nat → Int → Int) × (Nat → Nat → Nat) × (Nat → Nat → Nat) × (Nat → Nat → Int) × (Nat → Nat → Int → Int) => none)) (post := (fun (u : (Nat → Nat) × (Nat → Nat) × (Nat → Int) × (Nat → Int → Int) × (Nat → Nat → Nat) × (Nat → Nat → Nat) × (Nat → Nat → Int) × (Nat → Nat → Int → Int)) (dn dm : Nat) => match u with | (r', n', z', F', Er', En', Ez', EF') => xR [17, 18, 19, 20, 21] [] [] [] N z F En Ez EF n' z' F' En' Ez' EF' ∧ (dn + xg n' ≤ xg n + 0 ∧ dm + xp n' ≤ xp n + 0) ∧ (True))) (ws := (fun u : (Nat → Nat) × (Nat → Nat) × (Nat → Int) × (Nat → Int → Int) × (Nat → Nat → Nat) × (Nat → Nat → Nat) × (Nat → Nat → Int) × (Nat → Nat → Int → Int) => match u with | (r', n', z', F', Er', En', Ez', EF') => (xU cI cB cE o r' n' z' F' G (Eo 0 0) ++ eP cI N Eo Er' En' Ez' EF'))) (tys := xT cI cB cE) (rL38, nL38, zL38, FL38, Er, En, Ez, EF) hx hb hr hlocks rfl hP hD hK hS dX5_warnOf_117 (fun dn dm hdn hdm => ⟨⟨hRLL38.1, hRLL38.2.1, hRLL38.2.2.1, hRLL38.2.2.2⟩, ⟨by omega, by omega⟩, trivial⟩) (by omega) (by omega)
          · skip
            refine lv_aload_n hx hb dX5_warnOf_100 rfl (lv_at hl 1 rfl) ?_
            have hPc := hP.sub (ws' := (eU cI (Eo j4) (Er j4) (En j4) (Ez j4) (EF j4))) [29, 30, 31, 32, 33, 34, 35, 36, 37, 38, 39, 40, 41, 42, 43, 44] rfl
            refine xk_pure (va_runV (As := []) (rest := []) ⟨hx, hb, hml, hown, hts⟩ (x_isEmptyRow l dC dI cI cB cE (Eo j4) (Er j4) (En j4) (Ez j4) (EF j4)  H.size (hRLL38.2.2.1 j4 hj4)) (cwV 0 hts (kx_gV kq_19_xouts_45 kq_19_xouts_46 kq_19_xouts_47 kq_16_xentry_2 kq_19_xouts_48 rfl) rfl rfl rfl (by decide +kernel) ⟨Nat.le_of_ble_eq_true rfl, Nat.le_of_ble_eq_true rfl⟩) ⟨pPre_blind, va_recv hK hPc (ci := 0) (q0 := 0) rfl rfl, pPre_give hPc hK hG⟩ rfl rfl hl.1 rfl (lv_room (Nat.le_of_ble_eq_true rfl)) dX5_warnOf_101 ⟨show cv + 0 ≤ 100 from (by omega), show sv + 0 ≤ 42000 from (by omega)⟩) hS (fun z_14 locs hq_13 hS => ?_)
            refine W.eq (g2 := F0 m 104 ls [.int (iz z_14)]) rfl ?_
            try dsimp only at hq_13
            refine ki_if_eq (tgt := 117) hx hb dX5_warnOf_104 (by decide) (by omega) (by omega) (fun c_15 => ?_) (fun c_15 => ?_)
            · skip
              have hP := eP_un0 hj4 hP
              have hD := eD_un0 hj4 hD
              rw [← hQe]
              exact xk_vret (ov := (fun _ : (Nat → Nat) × (Nat → Nat) × (Nat → Int) × (Nat → Int → Int) × (Nat → Nat → Nat) × (Nat → Nat → Nat) × (Nat → Nat → Int) × (Nat → Nat → Int → Int) => none)) (post := (fun (u : (Nat → Nat) × (Nat → Nat) × (Nat → Int) × (Nat → Int → Int) × (Nat → Nat → Nat) × (Nat → Nat → Nat) × (Nat → Nat → Int) × (Nat → Nat → Int → Int)) (dn dm : Nat) => match u with | (r', n', z', F', Er', En', Ez', EF') => xR [17, 18, 19, 20, 21] [] [] [] N z F En Ez EF n' z' F' En' Ez' EF' ∧ (dn + xg n' ≤ xg n + 0 ∧ dm + xp n' ≤ xp n + 0) ∧ (True))) (ws := (fun u : (Nat → Nat) × (Nat → Nat) × (Nat → Int) × (Nat → Int → Int) × (Nat → Nat → Nat) × (Nat → Nat → Nat) × (Nat → Nat → Int) × (Nat → Nat → Int → Int) => match u with | (r', n', z', F', Er', En', Ez', EF') => (xU cI cB cE o r' n' z' F' G (Eo 0 0) ++ eP cI N Eo Er' En' Ez' EF'))) (tys := xT cI cB cE) (rL38, nL38, zL38, FL38, Er, En, Ez, EF) hx hb hr hlocks rfl hP hD hK hS dX5_warnOf_117 (fun dn dm hdn hdm => ⟨⟨hRLL38.1, hRLL38.2.1, hRLL38.2.2.1, hRLL38.2.2.2⟩, ⟨by omega, by omega⟩, trivial⟩) (by omega) (by omega)
            · skip
              refine lv_aload_n hx hb dX5_warnOf_107 rfl (lv_at hl 2 rfl) ?_
              refine va_get (D := (dC, dI)) (ci := 5) (v := .ref (o 12)) (C := RX5) (T := TX5) (N := 16) hx hb hts kt_X5 hown hK hP 0 rfl rfl 12 (by decide) (kx_word hG kq_19_xouts_49 rfl) (fun _ h9 => h9) rfl dX5_warnOf_108 ?_
              refine lv_iconst (v := iz 3) hx hb dX5_warnOf_111 (by decide) ?_
              refine lv_iload_n hx hb dX5_warnOf_112 rfl (lv_at hl 3 rfl) ?_
              refine lv_iconst (v := iz 0) hx hb dX5_warnOf_113 (by decide) ?_
              have hxz_16 : -2147483648 ≤ zL38 17 ∧ zL38 17 < 2147483648 := hRLL38.1.2.2.2.1 17
              have hxz_17 : -2147483648 ≤ zL38 18 ∧ zL38 18 < 2147483648 := hRLL38.1.2.2.2.1 18
              have hxz_18 : -2147483648 ≤ zL38 19 ∧ zL38 19 < 2147483648 := hRLL38.1.2.2.2.1 19
              have hxz_19 : -2147483648 ≤ zL38 20 ∧ zL38 20 < 2147483648 := hRLL38.1.2.2.2.1 20
              have hxz_20 : -2147483648 ≤ zL38 21 ∧ zL38 21 < 2147483648 := hRLL38.1.2.2.2.1 21
              have hPc := hP.sub (ws' := (wU (o 12) (zL38 17) (zL38 18) (zL38 19) (zL38 20) (zL38 21))) [24] rfl
              have hDc := hD.sub (ws' := (wU (o 12) (zL38 17) (zL38 18) (zL38 19) (zL38 20) (zL38 21))) [24] (by decide) rfl
              have hFc := va_free (wc := (wU (o 12) (zL38 17) (zL38 18) (zL38 19) (zL38 20) (zL38 21))) hD hS hA [24] rfl
              refine xk_call (va_runV (As := [.int (iz 3), .int (iz p0), .int (iz 0)]) (rest := []) ⟨hx, hb, hml, hown, hts⟩ (x_tell l dC dI cI cB cE (o 12) (zL38 17) (zL38 18) (zL38 19) (zL38 20) (zL38 21) 3 p0 0 H.size (by omega) (by omega) (by omega) (by omega) (by omega) (by omega) (by omega) (by omega) (by omega) (by omega) (by omega)) (cwV 3 hts (kx_gV kq_19_xouts_50 kq_19_xouts_51 kq_19_xouts_52 kq_19_xouts_53 kq_19_xouts_54 rfl) rfl rfl rfl (by decide +kernel) ⟨Nat.le_of_ble_eq_true rfl, Nat.le_of_ble_eq_true rfl⟩) ⟨kx_blind, va_recv hK hPc (ci := 4) (q0 := 0) rfl rfl, kx_give (ws := []) (tys := []) hPc hDc hK hG hZ hS hFc⟩ rfl rfl hl.1 rfl (lv_room (Nat.le_of_ble_eq_true rfl)) dX5_warnOf_114 ⟨show cv + 0 ≤ 100 from (by omega), show sv + 0 ≤ 42000 from (by omega)⟩) hS (fun q _ h => hFc q h) hFc (fun u dn_22 dm_23 t H locs ht hvm hq_21 hB hk1 hS => ?_)
              obtain ⟨z2_24, z3_25, z4_26, z5_27⟩ := u
              obtain ⟨hP1, hK1, hD1⟩ := hB
              rw [ht] at hP1
              obtain ⟨hP, hD⟩ := xj_pool (wr := [(o 15, .inr (5, [.ref (o 16), .ref (Eo 0 0), .int (iz (zL38 12)), .int (iz (zL38 13)), .int (iz (zL38 14)), .ref (o 0), .ref (o 1), .int (iz (zL38 15)), .ref (o 13), .ref (o 14), .int (iz (zL38 16)), .ref (o 2), .ref (o 12), .ref (o 3), .ref (o 10), .ref (o 11)])), (o 16, .inl (cE, 80, .inr (.inr (.inr (.inr G))))), (o 0, .inr (1, [.int (iz 80), .ref (rL38 0), .int (iz (zL38 0))])), (rL38 0, .inl (cI, nL38 0, .inl (iA (FL38 0)))), (o 1, .inr (1, [.int (iz 80), .ref (rL38 1), .int (iz (zL38 1))])), (rL38 1, .inl (cI, nL38 1, .inl (iA (FL38 1)))), (o 2, .inr (1, [.int (iz 80), .ref (rL38 2), .int (iz (zL38 2))])), (rL38 2, .inl (cI, nL38 2, .inl (iA (FL38 2)))), (o 3, .inr (1, [.int (iz 80), .ref (rL38 3), .int (iz (zL38 3))])), (rL38 3, .inl (cI, nL38 3, .inl (iA (FL38 3)))), (o 13, .inr (3, [.ref (o 4), .ref (o 5), .ref (o 6)])), (o 4, .inr (1, [.int (iz 1600), .ref (rL38 4), .int (iz (zL38 4))])), (rL38 4, .inl (cI, nL38 4, .inl (iA (FL38 4)))), (o 5, .inr (1, [.int (iz 1600), .ref (rL38 5), .int (iz (zL38 5))])), (rL38 5, .inl (cI, nL38 5, .inl (iA (FL38 5)))), (o 6, .inr (1, [.int (iz 1600), .ref (rL38 6), .int (iz (zL38 6))])), (rL38 6, .inl (cI, nL38 6, .inl (iA (FL38 6)))), (o 14, .inr (3, [.ref (o 7), .ref (o 8), .ref (o 9)])), (o 7, .inr (1, [.int (iz 1600), .ref (rL38 7), .int (iz (zL38 7))])), (rL38 7, .inl (cI, nL38 7, .inl (iA (FL38 7)))), (o 8, .inr (1, [.int (iz 1600), .ref (rL38 8), .int (iz (zL38 8))])), (rL38 8, .inl (cI, nL38 8, .inl (iA (FL38 8)))), (o 9, .inr (1, [.int (iz 1600), .ref (rL38 9), .int (iz (zL38 9))])), (rL38 9, .inl (cI, nL38 9, .inl (iA (FL38 9)))), (o 10, .inr (2, [.ref (rL38 10), .int (iz (zL38 10)), .int (iz (zL38 22))])), (rL38 10, .inl (cB, nL38 10, .inl (iA (FL38 10)))), (o 11, .inr (2, [.ref (rL38 11), .int (iz (zL38 11)), .int (iz (zL38 23))])), (rL38 11, .inl (cB, nL38 11, .inl (iA (FL38 11)))), (Eo j4 0, .inr (0, [.int (iz (Ez j4 7)), .int (iz (Ez j4 8)), .ref (Eo j4 1), .ref (Eo j4 2), .ref (Eo j4 3), .ref (Eo j4 5), .ref (Eo j4 4), .int (iz (Ez j4 9)), .int (iz (Ez j4 10)), .int (iz (Ez j4 11)), .int (iz (Ez j4 12)), .int (iz (Ez j4 13))])), (Eo j4 1, .inr (1, [.int (iz 20), .ref (Er j4 0), .int (iz (Ez j4 0))])), (Er j4 0, .inl (cI, En j4 0, .inl (iA (EF j4 0)))), (Eo j4 2, .inr (1, [.int (iz 20), .ref (Er j4 1), .int (iz (Ez j4 1))])), (Er j4 1, .inl (cI, En j4 1, .inl (iA (EF j4 1)))), (Eo j4 3, .inr (1, [.int (iz 40), .ref (Er j4 2), .int (iz (Ez j4 2))])), (Er j4 2, .inl (cI, En j4 2, .inl (iA (EF j4 2)))), (Eo j4 4, .inr (1, [.int (iz 5), .ref (Er j4 3), .int (iz (Ez j4 3))])), (Er j4 3, .inl (cI, En j4 3, .inl (iA (EF j4 3)))), (Eo j4 5, .inr (3, [.ref (Eo j4 6), .ref (Eo j4 7), .ref (Eo j4 8)])), (Eo j4 6, .inr (1, [.int (iz 20), .ref (Er j4 4), .int (iz (Ez j4 4))])), (Er j4 4, .inl (cI, En j4 4, .inl (iA (EF j4 4)))), (Eo j4 7, .inr (1, [.int (iz 20), .ref (Er j4 5), .int (iz (Ez j4 5))])), (Er j4 5, .inl (cI, En j4 5, .inl (iA (EF j4 5)))), (Eo j4 8, .inr (1, [.int (iz 20), .ref (Er j4 6), .int (iz (Ez j4 6))])), (Er j4 6, .inl (cI, En j4 6, .inl (iA (EF j4 6))))]) (w1 := (wU (o 12) (zL38 17) z2_24 z3_25 z4_26 z5_27)) (ws' := ((xU cI cB cE o rL38 nL38 (va_up (va_up (va_up (va_up zL38 18 z2_24) 19 z3_25) 20 z4_26) 21 z5_27) FL38 G (Eo 0 0)) ++ (eU cI (Eo j4) (Er j4) (En j4) (Ez j4) (EF j4)))) hP hD [24] [0, 1, 2, 3, 4, 5, 6, 7, 8, 9, 10, 11, 12, 13, 14, 15, 16, 17, 18, 19, 20, 21, 22, 23, 25, 26, 27, 28, 29, 30, 31, 32, 33, 34, 35, 36, 37, 38, 39, 40, 41, 42, 43, 44] [0, 1, 2, 3, 4, 5, 6, 7, 8, 9, 10, 11, 12, 13, 14, 15, 16, 17, 18, 19, 20, 21, 22, 23, 44, 24, 25, 26, 27, 28, 29, 30, 31, 32, 33, 34, 35, 36, 37, 38, 39, 40, 41, 42, 43] rfl rfl (by decide) (by decide) hk1 hFc hP1 hD1 rfl (by decide)
              refine W.eq (g2 := F0 m 117 ls []) rfl ?_
              try dsimp only at hq_21
              obtain ⟨hd28, hm28, hw28⟩ := hq_21
              subst hd28
              subst hm28
              have hP := eP_un0 hj4 hP
              have hD := eD_un0 hj4 hD
              have hok29 : xOk nL38 (va_up (va_up (va_up (va_up zL38 18 z2_24) 19 z3_25) 20 z4_26) 21 z5_27) FL38 := ((((hRLL38.1.s 18 (by decide) (show -2147483648 ≤ z2_24 ∧ z2_24 < 2147483648 by omega) (by omega)).s 19 (by decide) (show -2147483648 ≤ z3_25 ∧ z3_25 < 2147483648 by omega) (by omega)).s 20 (by decide) (show -2147483648 ≤ z4_26 ∧ z4_26 < 2147483648 by omega) (by omega)).s 21 (by decide) (show -2147483648 ≤ z5_27 ∧ z5_27 < 2147483648 by omega) (by omega))
              have hfr29 : xFr [17, 18, 19, 20, 21] [] z F (va_up (va_up (va_up (va_up zL38 18 z2_24) 19 z3_25) 20 z4_26) 21 z5_27) FL38 := ((((hRLL38.2.1.uz 18 (by decide) _).uz 19 (by decide) _).uz 20 (by decide) _).uz 21 (by decide) _)
              rw [← hQe]
              exact xk_vret (ov := (fun _ : (Nat → Nat) × (Nat → Nat) × (Nat → Int) × (Nat → Int → Int) × (Nat → Nat → Nat) × (Nat → Nat → Nat) × (Nat → Nat → Int) × (Nat → Nat → Int → Int) => none)) (post := (fun (u : (Nat → Nat) × (Nat → Nat) × (Nat → Int) × (Nat → Int → Int) × (Nat → Nat → Nat) × (Nat → Nat → Nat) × (Nat → Nat → Int) × (Nat → Nat → Int → Int)) (dn dm : Nat) => match u with | (r', n', z', F', Er', En', Ez', EF') => xR [17, 18, 19, 20, 21] [] [] [] N z F En Ez EF n' z' F' En' Ez' EF' ∧ (dn + xg n' ≤ xg n + 0 ∧ dm + xp n' ≤ xp n + 0) ∧ (True))) (ws := (fun u : (Nat → Nat) × (Nat → Nat) × (Nat → Int) × (Nat → Int → Int) × (Nat → Nat → Nat) × (Nat → Nat → Nat) × (Nat → Nat → Int) × (Nat → Nat → Int → Int) => match u with | (r', n', z', F', Er', En', Ez', EF') => (xU cI cB cE o r' n' z' F' G (Eo 0 0) ++ eP cI N Eo Er' En' Ez' EF'))) (tys := xT cI cB cE) (rL38, nL38, (va_up (va_up (va_up (va_up zL38 18 z2_24) 19 z3_25) 20 z4_26) 21 z5_27), FL38, Er, En, Ez, EF) hx hb hr hlocks rfl hP hD hK hS dX5_warnOf_117 (fun dn dm hdn hdm => ⟨⟨hok29, hfr29, hRLL38.2.2.1, hRLL38.2.2.2⟩, ⟨by omega, by omega⟩, trivial⟩) (by omega) (by omega)
        · skip
          refine lv_aload_n hx hb dX5_warnOf_49 rfl (lv_at hl 1 rfl) ?_
          refine va_getN (D := (dC, dI)) (ci := 0) (v := .ref (Eo j4 4)) (C := RX0) (T := TX0) (N := 12) hx hb hts kt_X0 hown hK hP 29 rfl rfl 6 (by decide) (va_Nw.use rfl (kx_nf hG kq_19_xouts_32)) (fun _ h9 => h9) rfl dX5_warnOf_50 ?_
          refine lv_iload_n hx hb dX5_warnOf_53 rfl (lv_at hl 0 rfl) ?_
          have hPc := hP.sub (ws' := (iU cI 5 (Eo j4 4) (Er j4 3) (En j4 3) (Ez j4 3) (EF j4 3))) [36, 37] rfl
          refine xk_pure (va_runV (As := [.int (iz k)]) (rest := []) ⟨hx, hb, hml, hown, hts⟩ (x_get l dC dI cI cB cE 5 (Eo j4 4) (Er j4 3) (En j4 3) (Ez j4 3) (EF j4 3) k H.size (by omega) ((hRLL38.2.2.1 j4 hj4).2.1 3) (by omega) (by omega)) (cwV 1 hts (kx_gV kq_18_xrows_41 kq_13_xints_4 kq_13_xints_5 kq_13_xints_6 kq_13_xints_7 rfl) rfl rfl rfl (by decide +kernel) ⟨Nat.le_of_ble_eq_true rfl, Nat.le_of_ble_eq_true rfl⟩) ⟨pPre_blind, va_recv hK hPc (ci := 1) (q0 := 0) rfl rfl, pPre_give hPc hK hG⟩ rfl rfl hl.1 rfl (lv_room (Nat.le_of_ble_eq_true rfl)) dX5_warnOf_54 ⟨show cv + 0 ≤ 100 from (by omega), show sv + 0 ≤ 42000 from (by omega)⟩) hS (fun z_31 locs hq_30 hS => ?_)
          refine W.eq (g2 := F0 m 57 ls [.int (iz z_31)]) rfl ?_
          try dsimp only at hq_30
          refine lv_istore (lv' := [(4, .int (iz z_31)), (3, .int (iz k)), (2, .ref (Eo j4 0)), (0, .ref (o 15)), (1, .int (iz p0))]) hx hb dX5_warnOf_57 hl (by decide) rfl (fun ls hl => ?_)
          refine lv_aload_n hx hb dX5_warnOf_59 rfl (lv_at hl 3 rfl) ?_
          refine lv_aload_n hx hb dX5_warnOf_60 rfl (lv_at hl 3 rfl) ?_
          refine lv_iload hx hb dX5_warnOf_61 (lv_at hl 0 rfl) ?_
          have hP := eP_un0 hj4 hP
          have hD := eD_un0 hj4 hD
          have hxz_32 : -2147483648 ≤ zL38 12 ∧ zL38 12 < 2147483648 := hRLL38.1.2.2.2.1 12
          have hxG9 : xG N (zL38 12) G Eo := ⟨by omega, by omega, by omega, fun e9 h9 => hN4 e9 (by omega)⟩
          have hP : va_P (dC, dI) kxCl (xU cI cB cE o rL38 nL38 zL38 FL38 G (Eo 0 0) ++ eP cI N Eo Er En Ez EF) H := hP
          refine xk_pure (va_runV (As := [.int (iz z_31)]) (rest := [.ref (o 15)]) ⟨hx, hb, hml, hown, hts⟩ (y_firstOf l dC dI cI cB cE o rL38 nL38 zL38 FL38 G N Eo Er En Ez EF z_31 H.size hRLL38.1 hxG9 hRLL38.2.2.1 (by omega) (by omega)) (cwV 1 hts (kx_gV kq_18_xrows_15 kq_18_xrows_16 kq_18_xrows_17 kq_18_xrows_4 kq_18_xrows_18 rfl) rfl rfl rfl (by decide +kernel) ⟨Nat.le_of_ble_eq_true rfl, Nat.le_of_ble_eq_true rfl⟩) ⟨pPre_blind, va_recv hK hP (ci := 5) (q0 := 0) rfl rfl, pPre_give hP hK hG⟩ rfl rfl hl.1 rfl (lv_room (Nat.le_of_ble_eq_true rfl)) dX5_warnOf_63 ⟨show cv + 0 ≤ 100 from (by omega), show sv + 0 ≤ 42000 from (by omega)⟩) hS (fun z_34 locs hq_33 hS => ?_)
          refine W.eq (g2 := F0 m 66 ls [.int (iz z_34), .ref (o 15)]) rfl ?_
          try dsimp only at hq_33
          have hxG9 : xG N (zL38 12) G Eo := ⟨by omega, by omega, by omega, fun e9 h9 => hN4 e9 (by omega)⟩
          have hP : va_P (dC, dI) kxCl (xU cI cB cE o rL38 nL38 zL38 FL38 G (Eo 0 0) ++ eP cI N Eo Er En Ez EF) H := hP
          refine xk_pure (va_runV (As := [.int (iz z_34)]) (rest := []) ⟨hx, hb, hml, hown, hts⟩ (y_known l dC dI cI cB cE o rL38 nL38 zL38 FL38 G N Eo Er En Ez EF z_34 H.size hRLL38.1 hxG9 hRLL38.2.2.1 (by omega) (by omega)) (cwV 1 hts (kx_gV kq_18_xrows_8 kq_18_xrows_9 kq_18_xrows_10 kq_18_xrows_4 kq_18_xrows_11 rfl) rfl rfl rfl (by decide +kernel) ⟨Nat.le_of_ble_eq_true rfl, Nat.le_of_ble_eq_true rfl⟩) ⟨pPre_blind, va_recv hK hP (ci := 5) (q0 := 0) rfl rfl, pPre_give hP hK hG⟩ rfl rfl hl.1 rfl (lv_room (Nat.le_of_ble_eq_true rfl)) dX5_warnOf_66 ⟨show cv + 0 ≤ 100 from (by omega), show sv + 0 ≤ 42000 from (by omega)⟩) hS (fun z_36 locs hq_35 hS => ?_)
          refine W.eq (g2 := F0 m 69 ls [.ref z_36.toNat]) rfl ?_
          try dsimp only at hq_35
          obtain ⟨j37, hj37, ez37, hje37⟩ := hq_35
          subst ez37
          refine W.eq (g2 := F0 m 69 ls [.ref (Eo j37 0)]) rfl ?_
          have hP := eP_foc hj37 hP
          have hD := eD_foc hj37 hD
          have hez_38 : -2147483648 ≤ Ez j37 11 ∧ Ez j37 11 < 2147483648 := (hRLL38.2.2.1 j37 hj37).2.2 11
          refine va_getN (D := (dC, dI)) (ci := 0) (v := .int (iz (Ez j37 11))) (C := RX0) (T := TX0) (N := 12) hx hb hts kt_X0 hown hK hP 29 rfl rfl 9 (by decide) (va_Nw.use rfl (kx_nf hG kq_19_xouts_37)) (fun _ h9 => h9) rfl dX5_warnOf_69 ?_
          refine ki_if_ne (tgt := 86) hx hb dX5_warnOf_72 (by decide) (by omega) (by omega) (fun c_39 => ?_) (fun c_39 => ?_)
          · skip
            refine lv_iinc (v := iz (k + 1)) (lv' := [(3, .int (iz (k + 1))), (4, .int (iz z_31)), (2, .ref (Eo j4 0)), (0, .ref (o 15)), (1, .int (iz p0))]) hx hb dX5_warnOf_86 hl (k := 1) rfl (iz_add k 1) (by decide) rfl (fun ls hl => ?_)
            refine lv_goto (tgt := 38) hx hb dX5_warnOf_89 (by decide) ?_
            have hP := eP_un0 hj37 hP
            have hD := eD_un0 hj37 hD
            exact ih38 (k + 1) rL38 nL38 zL38 FL38 cv sv ⟨⟨hRLL38.1, hRLL38.2.1, hRLL38.2.2.1, hRLL38.2.2.2⟩, ⟨by omega, by omega⟩, (show zL38 12 = z 12 by omega), by omega⟩ (by omega) _ _ hP hD hS ls (lv_sub hl [0, 2, 3, 4] rfl)
          · skip
            refine lv_aload_n hx hb dX5_warnOf_75 rfl (lv_at hl 3 rfl) ?_
            refine va_get (D := (dC, dI)) (ci := 5) (v := .ref (o 12)) (C := RX5) (T := TX5) (N := 16) hx hb hts kt_X5 hown hK hP 0 rfl rfl 12 (by decide) (kx_word hG kq_19_xouts_49 rfl) (fun _ h9 => h9) rfl dX5_warnOf_76 ?_
            refine lv_iconst (v := iz 2) hx hb dX5_warnOf_79 (by decide) ?_
            refine lv_iload_n hx hb dX5_warnOf_80 rfl (lv_at hl 4 rfl) ?_
            refine lv_iload hx hb dX5_warnOf_81 (lv_at hl 0 rfl) ?_
            have hxz_40 : -2147483648 ≤ zL38 17 ∧ zL38 17 < 2147483648 := hRLL38.1.2.2.2.1 17
            have hxz_41 : -2147483648 ≤ zL38 18 ∧ zL38 18 < 2147483648 := hRLL38.1.2.2.2.1 18
            have hxz_42 : -2147483648 ≤ zL38 19 ∧ zL38 19 < 2147483648 := hRLL38.1.2.2.2.1 19
            have hxz_43 : -2147483648 ≤ zL38 20 ∧ zL38 20 < 2147483648 := hRLL38.1.2.2.2.1 20
            have hxz_44 : -2147483648 ≤ zL38 21 ∧ zL38 21 < 2147483648 := hRLL38.1.2.2.2.1 21
            have hPc := hP.sub (ws' := (wU (o 12) (zL38 17) (zL38 18) (zL38 19) (zL38 20) (zL38 21))) [24] rfl
            have hDc := hD.sub (ws' := (wU (o 12) (zL38 17) (zL38 18) (zL38 19) (zL38 20) (zL38 21))) [24] (by decide) rfl
            have hFc := va_free (wc := (wU (o 12) (zL38 17) (zL38 18) (zL38 19) (zL38 20) (zL38 21))) hD hS hA [24] rfl
            refine xk_call (va_runV (As := [.int (iz 2), .int (iz p0), .int (iz z_31)]) (rest := []) ⟨hx, hb, hml, hown, hts⟩ (x_tell l dC dI cI cB cE (o 12) (zL38 17) (zL38 18) (zL38 19) (zL38 20) (zL38 21) 2 p0 z_31 H.size (by omega) (by omega) (by omega) (by omega) (by omega) (by omega) (by omega) (by omega) (by omega) (by omega) (by omega)) (cwV 3 hts (kx_gV kq_19_xouts_50 kq_19_xouts_51 kq_19_xouts_52 kq_19_xouts_53 kq_19_xouts_54 rfl) rfl rfl rfl (by decide +kernel) ⟨Nat.le_of_ble_eq_true rfl, Nat.le_of_ble_eq_true rfl⟩) ⟨kx_blind, va_recv hK hPc (ci := 4) (q0 := 0) rfl rfl, kx_give (ws := []) (tys := []) hPc hDc hK hG hZ hS hFc⟩ rfl rfl hl.1 rfl (lv_room (Nat.le_of_ble_eq_true rfl)) dX5_warnOf_83 ⟨show cv + 0 ≤ 100 from (by omega), show sv + 0 ≤ 42000 from (by omega)⟩) hS (fun q _ h => hFc q h) hFc (fun u dn_46 dm_47 t H locs ht hvm hq_45 hB hk1 hS => ?_)
            obtain ⟨z2_48, z3_49, z4_50, z5_51⟩ := u
            obtain ⟨hP1, hK1, hD1⟩ := hB
            rw [ht] at hP1
            obtain ⟨hP, hD⟩ := xj_pool (wr := [(o 15, .inr (5, [.ref (o 16), .ref (Eo 0 0), .int (iz (zL38 12)), .int (iz (zL38 13)), .int (iz (zL38 14)), .ref (o 0), .ref (o 1), .int (iz (zL38 15)), .ref (o 13), .ref (o 14), .int (iz (zL38 16)), .ref (o 2), .ref (o 12), .ref (o 3), .ref (o 10), .ref (o 11)])), (o 16, .inl (cE, 80, .inr (.inr (.inr (.inr G))))), (o 0, .inr (1, [.int (iz 80), .ref (rL38 0), .int (iz (zL38 0))])), (rL38 0, .inl (cI, nL38 0, .inl (iA (FL38 0)))), (o 1, .inr (1, [.int (iz 80), .ref (rL38 1), .int (iz (zL38 1))])), (rL38 1, .inl (cI, nL38 1, .inl (iA (FL38 1)))), (o 2, .inr (1, [.int (iz 80), .ref (rL38 2), .int (iz (zL38 2))])), (rL38 2, .inl (cI, nL38 2, .inl (iA (FL38 2)))), (o 3, .inr (1, [.int (iz 80), .ref (rL38 3), .int (iz (zL38 3))])), (rL38 3, .inl (cI, nL38 3, .inl (iA (FL38 3)))), (o 13, .inr (3, [.ref (o 4), .ref (o 5), .ref (o 6)])), (o 4, .inr (1, [.int (iz 1600), .ref (rL38 4), .int (iz (zL38 4))])), (rL38 4, .inl (cI, nL38 4, .inl (iA (FL38 4)))), (o 5, .inr (1, [.int (iz 1600), .ref (rL38 5), .int (iz (zL38 5))])), (rL38 5, .inl (cI, nL38 5, .inl (iA (FL38 5)))), (o 6, .inr (1, [.int (iz 1600), .ref (rL38 6), .int (iz (zL38 6))])), (rL38 6, .inl (cI, nL38 6, .inl (iA (FL38 6)))), (o 14, .inr (3, [.ref (o 7), .ref (o 8), .ref (o 9)])), (o 7, .inr (1, [.int (iz 1600), .ref (rL38 7), .int (iz (zL38 7))])), (rL38 7, .inl (cI, nL38 7, .inl (iA (FL38 7)))), (o 8, .inr (1, [.int (iz 1600), .ref (rL38 8), .int (iz (zL38 8))])), (rL38 8, .inl (cI, nL38 8, .inl (iA (FL38 8)))), (o 9, .inr (1, [.int (iz 1600), .ref (rL38 9), .int (iz (zL38 9))])), (rL38 9, .inl (cI, nL38 9, .inl (iA (FL38 9)))), (o 10, .inr (2, [.ref (rL38 10), .int (iz (zL38 10)), .int (iz (zL38 22))])), (rL38 10, .inl (cB, nL38 10, .inl (iA (FL38 10)))), (o 11, .inr (2, [.ref (rL38 11), .int (iz (zL38 11)), .int (iz (zL38 23))])), (rL38 11, .inl (cB, nL38 11, .inl (iA (FL38 11)))), (Eo j37 0, .inr (0, [.int (iz (Ez j37 7)), .int (iz (Ez j37 8)), .ref (Eo j37 1), .ref (Eo j37 2), .ref (Eo j37 3), .ref (Eo j37 5), .ref (Eo j37 4), .int (iz (Ez j37 9)), .int (iz (Ez j37 10)), .int (iz (Ez j37 11)), .int (iz (Ez j37 12)), .int (iz (Ez j37 13))])), (Eo j37 1, .inr (1, [.int (iz 20), .ref (Er j37 0), .int (iz (Ez j37 0))])), (Er j37 0, .inl (cI, En j37 0, .inl (iA (EF j37 0)))), (Eo j37 2, .inr (1, [.int (iz 20), .ref (Er j37 1), .int (iz (Ez j37 1))])), (Er j37 1, .inl (cI, En j37 1, .inl (iA (EF j37 1)))), (Eo j37 3, .inr (1, [.int (iz 40), .ref (Er j37 2), .int (iz (Ez j37 2))])), (Er j37 2, .inl (cI, En j37 2, .inl (iA (EF j37 2)))), (Eo j37 4, .inr (1, [.int (iz 5), .ref (Er j37 3), .int (iz (Ez j37 3))])), (Er j37 3, .inl (cI, En j37 3, .inl (iA (EF j37 3)))), (Eo j37 5, .inr (3, [.ref (Eo j37 6), .ref (Eo j37 7), .ref (Eo j37 8)])), (Eo j37 6, .inr (1, [.int (iz 20), .ref (Er j37 4), .int (iz (Ez j37 4))])), (Er j37 4, .inl (cI, En j37 4, .inl (iA (EF j37 4)))), (Eo j37 7, .inr (1, [.int (iz 20), .ref (Er j37 5), .int (iz (Ez j37 5))])), (Er j37 5, .inl (cI, En j37 5, .inl (iA (EF j37 5)))), (Eo j37 8, .inr (1, [.int (iz 20), .ref (Er j37 6), .int (iz (Ez j37 6))])), (Er j37 6, .inl (cI, En j37 6, .inl (iA (EF j37 6))))]) (w1 := (wU (o 12) (zL38 17) z2_48 z3_49 z4_50 z5_51)) (ws' := ((xU cI cB cE o rL38 nL38 (va_up (va_up (va_up (va_up zL38 18 z2_48) 19 z3_49) 20 z4_50) 21 z5_51) FL38 G (Eo 0 0)) ++ (eU cI (Eo j37) (Er j37) (En j37) (Ez j37) (EF j37)))) hP hD [24] [0, 1, 2, 3, 4, 5, 6, 7, 8, 9, 10, 11, 12, 13, 14, 15, 16, 17, 18, 19, 20, 21, 22, 23, 25, 26, 27, 28, 29, 30, 31, 32, 33, 34, 35, 36, 37, 38, 39, 40, 41, 42, 43, 44] [0, 1, 2, 3, 4, 5, 6, 7, 8, 9, 10, 11, 12, 13, 14, 15, 16, 17, 18, 19, 20, 21, 22, 23, 44, 24, 25, 26, 27, 28, 29, 30, 31, 32, 33, 34, 35, 36, 37, 38, 39, 40, 41, 42, 43] rfl rfl (by decide) (by decide) hk1 hFc hP1 hD1 rfl (by decide)
            refine W.eq (g2 := F0 m 86 ls []) rfl ?_
            try dsimp only at hq_45
            obtain ⟨hd52, hm52, hw52⟩ := hq_45
            subst hd52
            subst hm52
            refine lv_iinc (v := iz (k + 1)) (lv' := [(3, .int (iz (k + 1))), (4, .int (iz z_31)), (2, .ref (Eo j4 0)), (0, .ref (o 15)), (1, .int (iz p0))]) hx hb dX5_warnOf_86 hl (k := 1) rfl (iz_add k 1) (by decide) rfl (fun ls hl => ?_)
            refine lv_goto (tgt := 38) hx hb dX5_warnOf_89 (by decide) ?_
            have hP := eP_un0 hj37 hP
            have hD := eD_un0 hj37 hD
            have hok53 : xOk nL38 (va_up (va_up (va_up (va_up zL38 18 z2_48) 19 z3_49) 20 z4_50) 21 z5_51) FL38 := ((((hRLL38.1.s 18 (by decide) (show -2147483648 ≤ z2_48 ∧ z2_48 < 2147483648 by omega) (by omega)).s 19 (by decide) (show -2147483648 ≤ z3_49 ∧ z3_49 < 2147483648 by omega) (by omega)).s 20 (by decide) (show -2147483648 ≤ z4_50 ∧ z4_50 < 2147483648 by omega) (by omega)).s 21 (by decide) (show -2147483648 ≤ z5_51 ∧ z5_51 < 2147483648 by omega) (by omega))
            have hfr53 : xFr [17, 18, 19, 20, 21] [] z F (va_up (va_up (va_up (va_up zL38 18 z2_48) 19 z3_49) 20 z4_50) 21 z5_51) FL38 := ((((hRLL38.2.1.uz 18 (by decide) _).uz 19 (by decide) _).uz 20 (by decide) _).uz 21 (by decide) _)
            exact ih38 (k + 1) rL38 nL38 (va_up (va_up (va_up (va_up zL38 18 z2_48) 19 z3_49) 20 z4_50) 21 z5_51) FL38 (cv + 0) (sv + 0) ⟨⟨hok53, hfr53, hRLL38.2.2.1, hRLL38.2.2.2⟩, ⟨by omega, by omega⟩, (show zL38 12 = z 12 by omega), by omega⟩ (by omega) _ _ hP hD hS ls (lv_sub hl [0, 2, 3, 4] rfl)
    exact lp38 _ 0 r n z F 0 0 ⟨⟨hok, hfr, hPE, hef⟩, ⟨by omega, by omega⟩, (show z 12 = z 12 by omega), by omega⟩ (Nat.lt_succ_self _) _ _ hP hD hS ls (lv_sub hl [0, 1, 2, 3] rfl)
  · skip
    refine lv_aload_n hx hb dX5_warnOf_13 rfl (lv_at hl 1 rfl) ?_
    refine va_get (D := (dC, dI)) (ci := 5) (v := .ref (o 12)) (C := RX5) (T := TX5) (N := 16) hx hb hts kt_X5 hown hK hP 0 rfl rfl 12 (by decide) (kx_word hG kq_19_xouts_49 rfl) (fun _ h9 => h9) rfl dX5_warnOf_14 ?_
    refine lv_iconst (v := iz 1) hx hb dX5_warnOf_17 (by decide) ?_
    refine lv_iload_n hx hb dX5_warnOf_18 rfl (lv_at hl 2 rfl) ?_
    refine lv_aload_n hx hb dX5_warnOf_19 rfl (lv_at hl 0 rfl) ?_
    refine va_getN (D := (dC, dI)) (ci := 0) (v := .ref (Eo j4 5)) (C := RX0) (T := TX0) (N := 12) hx hb hts kt_X0 hown hK hP 29 rfl rfl 5 (by decide) (va_Nw.use rfl (kx_nf hG kq_19_xouts_22)) (fun _ h9 => h9) rfl dX5_warnOf_20 ?_
    refine lv_aload_n hx hb dX5_warnOf_23 rfl (lv_at hl 0 rfl) ?_
    refine va_getN (D := (dC, dI)) (ci := 0) (v := .int (iz (Ez j4 9))) (C := RX0) (T := TX0) (N := 12) hx hb hts kt_X0 hown hK hP 29 rfl rfl 7 (by decide) (va_Nw.use rfl (kx_nf hG kq_19_xouts_44)) (fun _ h9 => h9) rfl dX5_warnOf_24 ?_
    have he_54 : 0 ≤ Ez j4 4 ∧ Ez j4 4 ≤ ((En j4 4 : Nat) : Int) ∧ ((En j4 4 : Nat) : Int) ≤ 20 := (hPE j4 hj4).1 4 (by decide)
    have he_55 : 0 ≤ Ez j4 5 ∧ Ez j4 5 ≤ ((En j4 5 : Nat) : Int) ∧ ((En j4 5 : Nat) : Int) ≤ 20 := (hPE j4 hj4).1 5 (by decide)
    have he_56 : 0 ≤ Ez j4 6 ∧ Ez j4 6 ≤ ((En j4 6 : Nat) : Int) ∧ ((En j4 6 : Nat) : Int) ≤ 20 := (hPE j4 hj4).1 6 (by decide)
    have hPc := hP.sub (ws' := (sU cI 20 (Eo j4 5) (Eo j4 6) (Eo j4 7) (Eo j4 8) (Er j4 4) (Er j4 5) (Er j4 6) (En j4 4) (En j4 5) (En j4 6) (Ez j4 4) (Ez j4 5) (Ez j4 6) (EF j4 4) (EF j4 5) (EF j4 6))) [38, 39, 40, 41, 42, 43, 44] rfl
    refine xk_pure (va_runV (As := [.int (iz (Ez j4 9))]) (rest := [.int (iz p0), .int (iz 1), .ref (o 12)]) ⟨hx, hb, hml, hown, hts⟩ (x_sfrom l dC dI cI cB cE 20 (Eo j4 5) (Eo j4 6) (Eo j4 7) (Eo j4 8) (Er j4 4) (Er j4 5) (Er j4 6) (En j4 4) (En j4 5) (En j4 6) (Ez j4 4) (Ez j4 5) (Ez j4 6) (EF j4 4) (EF j4 5) (EF j4 6) (Ez j4 9) s.heap.size (by omega) ((hPE j4 hj4).2.1 4) (by omega) ((hPE j4 hj4).2.1 5) (by omega) ((hPE j4 hj4).2.1 6) (by omega) (by omega)) (cwV 1 hts (kx_gV kq_19_xouts_8 kq_15_xspan_56 kq_15_xspan_57 kq_15_xspan_53 kq_15_xspan_58 rfl) rfl rfl rfl (by decide +kernel) ⟨Nat.le_of_ble_eq_true rfl, Nat.le_of_ble_eq_true rfl⟩) ⟨pPre_blind, va_recv hK hPc (ci := 3) (q0 := 0) rfl rfl, pPre_give hPc hK hG⟩ rfl rfl hl.1 rfl (lv_room (Nat.le_of_ble_eq_true rfl)) dX5_warnOf_27 ⟨show 0 + 0 ≤ 100 from (by omega), show 0 + 0 ≤ 42000 from (by omega)⟩) hS (fun z_58 locs hq_57 hS => ?_)
    refine W.eq (g2 := F0 m 30 ls [.int (iz z_58), .int (iz p0), .int (iz 1), .ref (o 12)]) rfl ?_
    try dsimp only at hq_57
    refine lv_ldc (v := 100000) hx hb hown (kx_word hG kq_19_xouts_55 rfl) dX5_warnOf_30 ?_
    refine ki_is (show (100000 : Int32) = iz 100000 by decide) ?_
    refine lv_irem hx hb dX5_warnOf_32 (show ¬ iz 100000 = 0 by decide) ?_
    refine ki_any (fun z_59 hz_59a hz_59b => ?_)
    have hxz_60 : -2147483648 ≤ z 17 ∧ z 17 < 2147483648 := hok.2.2.2.1 17
    have hxz_61 : -2147483648 ≤ z 18 ∧ z 18 < 2147483648 := hok.2.2.2.1 18
    have hxz_62 : -2147483648 ≤ z 19 ∧ z 19 < 2147483648 := hok.2.2.2.1 19
    have hxz_63 : -2147483648 ≤ z 20 ∧ z 20 < 2147483648 := hok.2.2.2.1 20
    have hxz_64 : -2147483648 ≤ z 21 ∧ z 21 < 2147483648 := hok.2.2.2.1 21
    have hPc := hP.sub (ws' := (wU (o 12) (z 17) (z 18) (z 19) (z 20) (z 21))) [24] rfl
    have hDc := hD.sub (ws' := (wU (o 12) (z 17) (z 18) (z 19) (z 20) (z 21))) [24] (by decide) rfl
    have hFc := va_free (wc := (wU (o 12) (z 17) (z 18) (z 19) (z 20) (z 21))) hD hS hA [24] rfl
    refine xk_call (va_runV (As := [.int (iz 1), .int (iz p0), .int (iz z_59)]) (rest := []) ⟨hx, hb, hml, hown, hts⟩ (x_tell l dC dI cI cB cE (o 12) (z 17) (z 18) (z 19) (z 20) (z 21) 1 p0 z_59 s.heap.size (by omega) (by omega) (by omega) (by omega) (by omega) (by omega) (by omega) (by omega) (by omega) (by omega) (by omega)) (cwV 3 hts (kx_gV kq_19_xouts_50 kq_19_xouts_51 kq_19_xouts_52 kq_19_xouts_53 kq_19_xouts_54 rfl) rfl rfl rfl (by decide +kernel) ⟨Nat.le_of_ble_eq_true rfl, Nat.le_of_ble_eq_true rfl⟩) ⟨kx_blind, va_recv hK hPc (ci := 4) (q0 := 0) rfl rfl, kx_give (ws := []) (tys := []) hPc hDc hK hG hZ hS hFc⟩ rfl rfl hl.1 rfl (lv_room (Nat.le_of_ble_eq_true rfl)) dX5_warnOf_33 ⟨show 0 + 0 ≤ 100 from (by omega), show 0 + 0 ≤ 42000 from (by omega)⟩) hS (fun q _ h => hFc q h) hFc (fun u dn_66 dm_67 t H locs ht hvm hq_65 hB hk1 hS => ?_)
    obtain ⟨z2_68, z3_69, z4_70, z5_71⟩ := u
    obtain ⟨hP1, hK1, hD1⟩ := hB
    rw [ht] at hP1
    obtain ⟨hP, hD⟩ := xj_pool (wr := [(o 15, .inr (5, [.ref (o 16), .ref (Eo 0 0), .int (iz (z 12)), .int (iz (z 13)), .int (iz (z 14)), .ref (o 0), .ref (o 1), .int (iz (z 15)), .ref (o 13), .ref (o 14), .int (iz (z 16)), .ref (o 2), .ref (o 12), .ref (o 3), .ref (o 10), .ref (o 11)])), (o 16, .inl (cE, 80, .inr (.inr (.inr (.inr G))))), (o 0, .inr (1, [.int (iz 80), .ref (r 0), .int (iz (z 0))])), (r 0, .inl (cI, n 0, .inl (iA (F 0)))), (o 1, .inr (1, [.int (iz 80), .ref (r 1), .int (iz (z 1))])), (r 1, .inl (cI, n 1, .inl (iA (F 1)))), (o 2, .inr (1, [.int (iz 80), .ref (r 2), .int (iz (z 2))])), (r 2, .inl (cI, n 2, .inl (iA (F 2)))), (o 3, .inr (1, [.int (iz 80), .ref (r 3), .int (iz (z 3))])), (r 3, .inl (cI, n 3, .inl (iA (F 3)))), (o 13, .inr (3, [.ref (o 4), .ref (o 5), .ref (o 6)])), (o 4, .inr (1, [.int (iz 1600), .ref (r 4), .int (iz (z 4))])), (r 4, .inl (cI, n 4, .inl (iA (F 4)))), (o 5, .inr (1, [.int (iz 1600), .ref (r 5), .int (iz (z 5))])), (r 5, .inl (cI, n 5, .inl (iA (F 5)))), (o 6, .inr (1, [.int (iz 1600), .ref (r 6), .int (iz (z 6))])), (r 6, .inl (cI, n 6, .inl (iA (F 6)))), (o 14, .inr (3, [.ref (o 7), .ref (o 8), .ref (o 9)])), (o 7, .inr (1, [.int (iz 1600), .ref (r 7), .int (iz (z 7))])), (r 7, .inl (cI, n 7, .inl (iA (F 7)))), (o 8, .inr (1, [.int (iz 1600), .ref (r 8), .int (iz (z 8))])), (r 8, .inl (cI, n 8, .inl (iA (F 8)))), (o 9, .inr (1, [.int (iz 1600), .ref (r 9), .int (iz (z 9))])), (r 9, .inl (cI, n 9, .inl (iA (F 9)))), (o 10, .inr (2, [.ref (r 10), .int (iz (z 10)), .int (iz (z 22))])), (r 10, .inl (cB, n 10, .inl (iA (F 10)))), (o 11, .inr (2, [.ref (r 11), .int (iz (z 11)), .int (iz (z 23))])), (r 11, .inl (cB, n 11, .inl (iA (F 11)))), (Eo j4 0, .inr (0, [.int (iz (Ez j4 7)), .int (iz (Ez j4 8)), .ref (Eo j4 1), .ref (Eo j4 2), .ref (Eo j4 3), .ref (Eo j4 5), .ref (Eo j4 4), .int (iz (Ez j4 9)), .int (iz (Ez j4 10)), .int (iz (Ez j4 11)), .int (iz (Ez j4 12)), .int (iz (Ez j4 13))])), (Eo j4 1, .inr (1, [.int (iz 20), .ref (Er j4 0), .int (iz (Ez j4 0))])), (Er j4 0, .inl (cI, En j4 0, .inl (iA (EF j4 0)))), (Eo j4 2, .inr (1, [.int (iz 20), .ref (Er j4 1), .int (iz (Ez j4 1))])), (Er j4 1, .inl (cI, En j4 1, .inl (iA (EF j4 1)))), (Eo j4 3, .inr (1, [.int (iz 40), .ref (Er j4 2), .int (iz (Ez j4 2))])), (Er j4 2, .inl (cI, En j4 2, .inl (iA (EF j4 2)))), (Eo j4 4, .inr (1, [.int (iz 5), .ref (Er j4 3), .int (iz (Ez j4 3))])), (Er j4 3, .inl (cI, En j4 3, .inl (iA (EF j4 3)))), (Eo j4 5, .inr (3, [.ref (Eo j4 6), .ref (Eo j4 7), .ref (Eo j4 8)])), (Eo j4 6, .inr (1, [.int (iz 20), .ref (Er j4 4), .int (iz (Ez j4 4))])), (Er j4 4, .inl (cI, En j4 4, .inl (iA (EF j4 4)))), (Eo j4 7, .inr (1, [.int (iz 20), .ref (Er j4 5), .int (iz (Ez j4 5))])), (Er j4 5, .inl (cI, En j4 5, .inl (iA (EF j4 5)))), (Eo j4 8, .inr (1, [.int (iz 20), .ref (Er j4 6), .int (iz (Ez j4 6))])), (Er j4 6, .inl (cI, En j4 6, .inl (iA (EF j4 6))))]) (w1 := (wU (o 12) (z 17) z2_68 z3_69 z4_70 z5_71)) (ws' := ((xU cI cB cE o r n (va_up (va_up (va_up (va_up z 18 z2_68) 19 z3_69) 20 z4_70) 21 z5_71) F G (Eo 0 0)) ++ (eU cI (Eo j4) (Er j4) (En j4) (Ez j4) (EF j4)))) hP hD [24] [0, 1, 2, 3, 4, 5, 6, 7, 8, 9, 10, 11, 12, 13, 14, 15, 16, 17, 18, 19, 20, 21, 22, 23, 25, 26, 27, 28, 29, 30, 31, 32, 33, 34, 35, 36, 37, 38, 39, 40, 41, 42, 43, 44] [0, 1, 2, 3, 4, 5, 6, 7, 8, 9, 10, 11, 12, 13, 14, 15, 16, 17, 18, 19, 20, 21, 22, 23, 44, 24, 25, 26, 27, 28, 29, 30, 31, 32, 33, 34, 35, 36, 37, 38, 39, 40, 41, 42, 43] rfl rfl (by decide) (by decide) hk1 hFc hP1 hD1 rfl (by decide)
    refine W.eq (g2 := F0 m 36 ls []) rfl ?_
    try dsimp only at hq_65
    obtain ⟨hd72, hm72, hw72⟩ := hq_65
    subst hd72
    subst hm72
    refine lv_iconst (v := iz 0) hx hb dX5_warnOf_36 (by decide) ?_
    refine lv_istore_n (lv' := [(3, .int (iz 0)), (2, .ref (Eo j4 0)), (0, .ref (o 15)), (1, .int (iz p0))]) hx hb dX5_warnOf_37 rfl hl (by decide) rfl (fun ls hl => ?_)
    have hP := eP_un0 hj4 hP
    have hD := eD_un0 hj4 hD
    have hok73 : xOk n (va_up (va_up (va_up (va_up z 18 z2_68) 19 z3_69) 20 z4_70) 21 z5_71) F := ((((hok.s 18 (by decide) (show -2147483648 ≤ z2_68 ∧ z2_68 < 2147483648 by omega) (by omega)).s 19 (by decide) (show -2147483648 ≤ z3_69 ∧ z3_69 < 2147483648 by omega) (by omega)).s 20 (by decide) (show -2147483648 ≤ z4_70 ∧ z4_70 < 2147483648 by omega) (by omega)).s 21 (by decide) (show -2147483648 ≤ z5_71 ∧ z5_71 < 2147483648 by omega) (by omega))
    have hfr73 : xFr [17, 18, 19, 20, 21] [] z F (va_up (va_up (va_up (va_up z 18 z2_68) 19 z3_69) 20 z4_70) 21 z5_71) F := ((((hfr.uz 18 (by decide) _).uz 19 (by decide) _).uz 20 (by decide) _).uz 21 (by decide) _)
    have lp38 : ∀ (n0 : Nat) (k : Int) (rL38 : Nat → Nat) (nL38 : Nat → Nat) (zL38 : Nat → Int) (FL38 : Nat → Int → Int) (cv : Nat) (sv : Nat), ((xR [17, 18, 19, 20, 21] [] [] [] N z F En Ez EF nL38 zL38 FL38 En Ez EF) ∧ (cv + xg nL38 ≤ xg n + (0) ∧ sv + xp nL38 ≤ xp n + (0)) ∧ (zL38 12 = z 12) ∧ (0 ≤ k ∧ k ≤ 5)) → (Ez j4 3 - k).toNat < n0 → ∀ (H : Heap) (locs : List Loc), va_P (dC, dI) kxCl ((xU cI cB cE o rL38 nL38 zL38 FL38 G (Eo 0 0)) ++ (eP cI N Eo Er En Ez EF)) H → va_D A ((xU cI cB cE o rL38 nL38 zL38 FL38 G (Eo 0 0)) ++ (eP cI N Eo Er En Ez EF)) → va_S A s.heap H locs → ∀ ls : Array Slot, lv_has ls 5 [(3, .int (iz k)), (2, .ref (Eo j4 0)), (0, .ref (o 15)), (1, .int (iz p0))] → W p l e (headSpec [.code yX5_warnOf cX5_warnOf 5 none] ({ frames := 3, cells := 100, slots := 42000, locals := 64 })).room s m ([.ref (o 15), .int (iz p0)] : List Value).toArray below meth c H locs cv sv QQ (F0 m 38 ls []) := by
      intro n0
      induction n0 with
      | zero => intro k rL38 nL38 zL38 FL38 cv sv hinv hm0; exact absurd hm0 (Nat.not_lt_zero _)
      | succ n0 ih38 =>
        intro k rL38 nL38 zL38 FL38 cv sv hinv hm0 H locs hP hD hS ls hl
        obtain ⟨hRLL38, hCLL38, hZLL38, hk⟩ := hinv
        have hs39 : 0 ≤ Ez j4 3 ∧ Ez j4 3 ≤ (En j4 3 : Int) ∧ (En j4 3 : Int) ≤ 5 := (hPE j4 hj4).1 3 (by decide)
        refine lv_iload_n hx hb dX5_warnOf_38 rfl (lv_at hl 0 rfl) ?_
        refine lv_aload_n hx hb dX5_warnOf_39 rfl (lv_at hl 1 rfl) ?_
        have hP := eP_foc hj4 hP
        have hD := eD_foc hj4 hD
        refine va_getN (D := (dC, dI)) (ci := 0) (v := .ref (Eo j4 4)) (C := RX0) (T := TX0) (N := 12) hx hb hts kt_X0 hown hK hP 29 rfl rfl 6 (by decide) (va_Nw.use rfl (kx_nf hG kq_19_xouts_32)) (fun _ h9 => h9) rfl dX5_warnOf_40 ?_
        have he_74 : 0 ≤ Ez j4 3 ∧ Ez j4 3 ≤ ((En j4 3 : Nat) : Int) ∧ ((En j4 3 : Nat) : Int) ≤ 5 := (hRLL38.2.2.1 j4 hj4).1 3 (by decide)
        have hPc := hP.sub (ws' := (iU cI 5 (Eo j4 4) (Er j4 3) (En j4 3) (Ez j4 3) (EF j4 3))) [36, 37] rfl
        refine xk_pure (va_runV (As := []) (rest := [.int (iz k)]) ⟨hx, hb, hml, hown, hts⟩ (x_size l dC dI cI cB cE 5 (Eo j4 4) (Er j4 3) (En j4 3) (Ez j4 3) (EF j4 3)  H.size ) (cwV 0 hts (kx_gV kq_18_xrows_40 kq_15_xspan_10 kq_15_xspan_11 kq_13_xints_6 kq_15_xspan_12 rfl) rfl rfl rfl (by decide +kernel) ⟨Nat.le_of_ble_eq_true rfl, Nat.le_of_ble_eq_true rfl⟩) ⟨pPre_blind, va_recv hK hPc (ci := 1) (q0 := 0) rfl rfl, pPre_give hPc hK hG⟩ rfl rfl hl.1 rfl (lv_room (Nat.le_of_ble_eq_true rfl)) dX5_warnOf_43 ⟨show cv + 0 ≤ 100 from (by omega), show sv + 0 ≤ 42000 from (by omega)⟩) hS (fun z_76 locs hq_75 hS => ?_)
        refine W.eq (g2 := F0 m 46 ls [.int (iz z_76), .int (iz k)]) rfl ?_
        try dsimp only at hq_75
        have hq_75 := hq_75.symm
        subst hq_75
        refine ki_icmp_ge (tgt := 92) hx hb dX5_warnOf_46 (by decide) (by omega) (by omega) (by omega) (by omega) (fun c_77 => ?_) (fun c_77 => ?_)
        · skip
          refine lv_aload_n hx hb dX5_warnOf_92 rfl (lv_at hl 1 rfl) ?_
          have hez_78 : -2147483648 ≤ Ez j4 10 ∧ Ez j4 10 < 2147483648 := (hRLL38.2.2.1 j4 hj4).2.2 10
          refine va_getN (D := (dC, dI)) (ci := 0) (v := .int (iz (Ez j4 10))) (C := RX0) (T := TX0) (N := 12) hx hb hts kt_X0 hown hK hP 29 rfl rfl 8 (by decide) (va_Nw.use rfl (kx_nf hG kq_18_xrows_13)) (fun _ h9 => h9) rfl dX5_warnOf_93 ?_
          refine lv_iload_n hx hb dX5_warnOf_96 rfl (lv_at hl 3 rfl) ?_
          refine ki_icmp_ne (tgt := 117) hx hb dX5_warnOf_97 (by decide) (by omega) (by omega) (by omega) (by omega) (fun c_79 => ?_) (fun c_79 => ?_)
          · skip
            have hP := eP_un0 hj4 hP
            have hD := eD_un0 hj4 hD
            rw [← hQe]
            exact xk_vret (ov := (fun _ : (Nat → Nat) × (Nat → Nat) × (Nat → Int) × (Nat → Int → Int) × (Nat → Nat → Nat) × (Nat → Nat → Nat) × (Nat → Nat → Int) × (Nat → Nat → Int → Int) => none)) (post := (fun (u : (Nat → Nat) × (Nat → Nat) × (Nat → Int) × (Nat → Int → Int) × (Nat → Nat → Nat) × (Nat → Nat → Nat) × (Nat → Nat → Int) × (Nat → Nat → Int → Int)) (dn dm : Nat) => match u with | (r', n', z', F', Er', En', Ez', EF') => xR [17, 18, 19, 20, 21] [] [] [] N z F En Ez EF n' z' F' En' Ez' EF' ∧ (dn + xg n' ≤ xg n + 0 ∧ dm + xp n' ≤ xp n + 0) ∧ (True))) (ws := (fun u : (Nat → Nat) × (Nat → Nat) × (Nat → Int) × (Nat → Int → Int) × (Nat → Nat → Nat) × (Nat → Nat → Nat) × (Nat → Nat → Int) × (Nat → Nat → Int → Int) => match u with | (r', n', z', F', Er', En', Ez', EF') => (xU cI cB cE o r' n' z' F' G (Eo 0 0) ++ eP cI N Eo Er' En' Ez' EF'))) (tys := xT cI cB cE) (rL38, nL38, zL38, FL38, Er, En, Ez, EF) hx hb hr hlocks rfl hP hD hK hS dX5_warnOf_117 (fun dn dm hdn hdm => ⟨⟨hRLL38.1, hRLL38.2.1, hRLL38.2.2.1, hRLL38.2.2.2⟩, ⟨by omega, by omega⟩, trivial⟩) (by omega) (by omega)
          · skip
            refine lv_aload_n hx hb dX5_warnOf_100 rfl (lv_at hl 1 rfl) ?_
            have hPc := hP.sub (ws' := (eU cI (Eo j4) (Er j4) (En j4) (Ez j4) (EF j4))) [29, 30, 31, 32, 33, 34, 35, 36, 37, 38, 39, 40, 41, 42, 43, 44] rfl
            refine xk_pure (va_runV (As := []) (rest := []) ⟨hx, hb, hml, hown, hts⟩ (x_isEmptyRow l dC dI cI cB cE (Eo j4) (Er j4) (En j4) (Ez j4) (EF j4)  H.size (hRLL38.2.2.1 j4 hj4)) (cwV 0 hts (kx_gV kq_19_xouts_45 kq_19_xouts_46 kq_19_xouts_47 kq_16_xentry_2 kq_19_xouts_48 rfl) rfl rfl rfl (by decide +kernel) ⟨Nat.le_of_ble_eq_true rfl, Nat.le_of_ble_eq_true rfl⟩) ⟨pPre_blind, va_recv hK hPc (ci := 0) (q0 := 0) rfl rfl, pPre_give hPc hK hG⟩ rfl rfl hl.1 rfl (lv_room (Nat.le_of_ble_eq_true rfl)) dX5_warnOf_101 ⟨show cv + 0 ≤ 100 from (by omega), show sv + 0 ≤ 42000 from (by omega)⟩) hS (fun z_81 locs hq_80 hS => ?_)
            refine W.eq (g2 := F0 m 104 ls [.int (iz z_81)]) rfl ?_
            try dsimp only at hq_80
            refine ki_if_eq (tgt := 117) hx hb dX5_warnOf_104 (by decide) (by omega) (by omega) (fun c_82 => ?_) (fun c_82 => ?_)
            · skip
              have hP := eP_un0 hj4 hP
              have hD := eD_un0 hj4 hD
              rw [← hQe]
              exact xk_vret (ov := (fun _ : (Nat → Nat) × (Nat → Nat) × (Nat → Int) × (Nat → Int → Int) × (Nat → Nat → Nat) × (Nat → Nat → Nat) × (Nat → Nat → Int) × (Nat → Nat → Int → Int) => none)) (post := (fun (u : (Nat → Nat) × (Nat → Nat) × (Nat → Int) × (Nat → Int → Int) × (Nat → Nat → Nat) × (Nat → Nat → Nat) × (Nat → Nat → Int) × (Nat → Nat → Int → Int)) (dn dm : Nat) => match u with | (r', n', z', F', Er', En', Ez', EF') => xR [17, 18, 19, 20, 21] [] [] [] N z F En Ez EF n' z' F' En' Ez' EF' ∧ (dn + xg n' ≤ xg n + 0 ∧ dm + xp n' ≤ xp n + 0) ∧ (True))) (ws := (fun u : (Nat → Nat) × (Nat → Nat) × (Nat → Int) × (Nat → Int → Int) × (Nat → Nat → Nat) × (Nat → Nat → Nat) × (Nat → Nat → Int) × (Nat → Nat → Int → Int) => match u with | (r', n', z', F', Er', En', Ez', EF') => (xU cI cB cE o r' n' z' F' G (Eo 0 0) ++ eP cI N Eo Er' En' Ez' EF'))) (tys := xT cI cB cE) (rL38, nL38, zL38, FL38, Er, En, Ez, EF) hx hb hr hlocks rfl hP hD hK hS dX5_warnOf_117 (fun dn dm hdn hdm => ⟨⟨hRLL38.1, hRLL38.2.1, hRLL38.2.2.1, hRLL38.2.2.2⟩, ⟨by omega, by omega⟩, trivial⟩) (by omega) (by omega)
            · skip
              refine lv_aload_n hx hb dX5_warnOf_107 rfl (lv_at hl 2 rfl) ?_
              refine va_get (D := (dC, dI)) (ci := 5) (v := .ref (o 12)) (C := RX5) (T := TX5) (N := 16) hx hb hts kt_X5 hown hK hP 0 rfl rfl 12 (by decide) (kx_word hG kq_19_xouts_49 rfl) (fun _ h9 => h9) rfl dX5_warnOf_108 ?_
              refine lv_iconst (v := iz 3) hx hb dX5_warnOf_111 (by decide) ?_
              refine lv_iload_n hx hb dX5_warnOf_112 rfl (lv_at hl 3 rfl) ?_
              refine lv_iconst (v := iz 0) hx hb dX5_warnOf_113 (by decide) ?_
              have hxz_83 : -2147483648 ≤ zL38 17 ∧ zL38 17 < 2147483648 := hRLL38.1.2.2.2.1 17
              have hxz_84 : -2147483648 ≤ zL38 18 ∧ zL38 18 < 2147483648 := hRLL38.1.2.2.2.1 18
              have hxz_85 : -2147483648 ≤ zL38 19 ∧ zL38 19 < 2147483648 := hRLL38.1.2.2.2.1 19
              have hxz_86 : -2147483648 ≤ zL38 20 ∧ zL38 20 < 2147483648 := hRLL38.1.2.2.2.1 20
              have hxz_87 : -2147483648 ≤ zL38 21 ∧ zL38 21 < 2147483648 := hRLL38.1.2.2.2.1 21
              have hPc := hP.sub (ws' := (wU (o 12) (zL38 17) (zL38 18) (zL38 19) (zL38 20) (zL38 21))) [24] rfl
              have hDc := hD.sub (ws' := (wU (o 12) (zL38 17) (zL38 18) (zL38 19) (zL38 20) (zL38 21))) [24] (by decide) rfl
              have hFc := va_free (wc := (wU (o 12) (zL38 17) (zL38 18) (zL38 19) (zL38 20) (zL38 21))) hD hS hA [24] rfl
              refine xk_call (va_runV (As := [.int (iz 3), .int (iz p0), .int (iz 0)]) (rest := []) ⟨hx, hb, hml, hown, hts⟩ (x_tell l dC dI cI cB cE (o 12) (zL38 17) (zL38 18) (zL38 19) (zL38 20) (zL38 21) 3 p0 0 H.size (by omega) (by omega) (by omega) (by omega) (by omega) (by omega) (by omega) (by omega) (by omega) (by omega) (by omega)) (cwV 3 hts (kx_gV kq_19_xouts_50 kq_19_xouts_51 kq_19_xouts_52 kq_19_xouts_53 kq_19_xouts_54 rfl) rfl rfl rfl (by decide +kernel) ⟨Nat.le_of_ble_eq_true rfl, Nat.le_of_ble_eq_true rfl⟩) ⟨kx_blind, va_recv hK hPc (ci := 4) (q0 := 0) rfl rfl, kx_give (ws := []) (tys := []) hPc hDc hK hG hZ hS hFc⟩ rfl rfl hl.1 rfl (lv_room (Nat.le_of_ble_eq_true rfl)) dX5_warnOf_114 ⟨show cv + 0 ≤ 100 from (by omega), show sv + 0 ≤ 42000 from (by omega)⟩) hS (fun q _ h => hFc q h) hFc (fun u dn_89 dm_90 t H locs ht hvm hq_88 hB hk1 hS => ?_)
              obtain ⟨z2_91, z3_92, z4_93, z5_94⟩ := u
              obtain ⟨hP1, hK1, hD1⟩ := hB
              rw [ht] at hP1
              obtain ⟨hP, hD⟩ := xj_pool (wr := [(o 15, .inr (5, [.ref (o 16), .ref (Eo 0 0), .int (iz (zL38 12)), .int (iz (zL38 13)), .int (iz (zL38 14)), .ref (o 0), .ref (o 1), .int (iz (zL38 15)), .ref (o 13), .ref (o 14), .int (iz (zL38 16)), .ref (o 2), .ref (o 12), .ref (o 3), .ref (o 10), .ref (o 11)])), (o 16, .inl (cE, 80, .inr (.inr (.inr (.inr G))))), (o 0, .inr (1, [.int (iz 80), .ref (rL38 0), .int (iz (zL38 0))])), (rL38 0, .inl (cI, nL38 0, .inl (iA (FL38 0)))), (o 1, .inr (1, [.int (iz 80), .ref (rL38 1), .int (iz (zL38 1))])), (rL38 1, .inl (cI, nL38 1, .inl (iA (FL38 1)))), (o 2, .inr (1, [.int (iz 80), .ref (rL38 2), .int (iz (zL38 2))])), (rL38 2, .inl (cI, nL38 2, .inl (iA (FL38 2)))), (o 3, .inr (1, [.int (iz 80), .ref (rL38 3), .int (iz (zL38 3))])), (rL38 3, .inl (cI, nL38 3, .inl (iA (FL38 3)))), (o 13, .inr (3, [.ref (o 4), .ref (o 5), .ref (o 6)])), (o 4, .inr (1, [.int (iz 1600), .ref (rL38 4), .int (iz (zL38 4))])), (rL38 4, .inl (cI, nL38 4, .inl (iA (FL38 4)))), (o 5, .inr (1, [.int (iz 1600), .ref (rL38 5), .int (iz (zL38 5))])), (rL38 5, .inl (cI, nL38 5, .inl (iA (FL38 5)))), (o 6, .inr (1, [.int (iz 1600), .ref (rL38 6), .int (iz (zL38 6))])), (rL38 6, .inl (cI, nL38 6, .inl (iA (FL38 6)))), (o 14, .inr (3, [.ref (o 7), .ref (o 8), .ref (o 9)])), (o 7, .inr (1, [.int (iz 1600), .ref (rL38 7), .int (iz (zL38 7))])), (rL38 7, .inl (cI, nL38 7, .inl (iA (FL38 7)))), (o 8, .inr (1, [.int (iz 1600), .ref (rL38 8), .int (iz (zL38 8))])), (rL38 8, .inl (cI, nL38 8, .inl (iA (FL38 8)))), (o 9, .inr (1, [.int (iz 1600), .ref (rL38 9), .int (iz (zL38 9))])), (rL38 9, .inl (cI, nL38 9, .inl (iA (FL38 9)))), (o 10, .inr (2, [.ref (rL38 10), .int (iz (zL38 10)), .int (iz (zL38 22))])), (rL38 10, .inl (cB, nL38 10, .inl (iA (FL38 10)))), (o 11, .inr (2, [.ref (rL38 11), .int (iz (zL38 11)), .int (iz (zL38 23))])), (rL38 11, .inl (cB, nL38 11, .inl (iA (FL38 11)))), (Eo j4 0, .inr (0, [.int (iz (Ez j4 7)), .int (iz (Ez j4 8)), .ref (Eo j4 1), .ref (Eo j4 2), .ref (Eo j4 3), .ref (Eo j4 5), .ref (Eo j4 4), .int (iz (Ez j4 9)), .int (iz (Ez j4 10)), .int (iz (Ez j4 11)), .int (iz (Ez j4 12)), .int (iz (Ez j4 13))])), (Eo j4 1, .inr (1, [.int (iz 20), .ref (Er j4 0), .int (iz (Ez j4 0))])), (Er j4 0, .inl (cI, En j4 0, .inl (iA (EF j4 0)))), (Eo j4 2, .inr (1, [.int (iz 20), .ref (Er j4 1), .int (iz (Ez j4 1))])), (Er j4 1, .inl (cI, En j4 1, .inl (iA (EF j4 1)))), (Eo j4 3, .inr (1, [.int (iz 40), .ref (Er j4 2), .int (iz (Ez j4 2))])), (Er j4 2, .inl (cI, En j4 2, .inl (iA (EF j4 2)))), (Eo j4 4, .inr (1, [.int (iz 5), .ref (Er j4 3), .int (iz (Ez j4 3))])), (Er j4 3, .inl (cI, En j4 3, .inl (iA (EF j4 3)))), (Eo j4 5, .inr (3, [.ref (Eo j4 6), .ref (Eo j4 7), .ref (Eo j4 8)])), (Eo j4 6, .inr (1, [.int (iz 20), .ref (Er j4 4), .int (iz (Ez j4 4))])), (Er j4 4, .inl (cI, En j4 4, .inl (iA (EF j4 4)))), (Eo j4 7, .inr (1, [.int (iz 20), .ref (Er j4 5), .int (iz (Ez j4 5))])), (Er j4 5, .inl (cI, En j4 5, .inl (iA (EF j4 5)))), (Eo j4 8, .inr (1, [.int (iz 20), .ref (Er j4 6), .int (iz (Ez j4 6))])), (Er j4 6, .inl (cI, En j4 6, .inl (iA (EF j4 6))))]) (w1 := (wU (o 12) (zL38 17) z2_91 z3_92 z4_93 z5_94)) (ws' := ((xU cI cB cE o rL38 nL38 (va_up (va_up (va_up (va_up zL38 18 z2_91) 19 z3_92) 20 z4_93) 21 z5_94) FL38 G (Eo 0 0)) ++ (eU cI (Eo j4) (Er j4) (En j4) (Ez j4) (EF j4)))) hP hD [24] [0, 1, 2, 3, 4, 5, 6, 7, 8, 9, 10, 11, 12, 13, 14, 15, 16, 17, 18, 19, 20, 21, 22, 23, 25, 26, 27, 28, 29, 30, 31, 32, 33, 34, 35, 36, 37, 38, 39, 40, 41, 42, 43, 44] [0, 1, 2, 3, 4, 5, 6, 7, 8, 9, 10, 11, 12, 13, 14, 15, 16, 17, 18, 19, 20, 21, 22, 23, 44, 24, 25, 26, 27, 28, 29, 30, 31, 32, 33, 34, 35, 36, 37, 38, 39, 40, 41, 42, 43] rfl rfl (by decide) (by decide) hk1 hFc hP1 hD1 rfl (by decide)
              refine W.eq (g2 := F0 m 117 ls []) rfl ?_
              try dsimp only at hq_88
              obtain ⟨hd95, hm95, hw95⟩ := hq_88
              subst hd95
              subst hm95
              have hP := eP_un0 hj4 hP
              have hD := eD_un0 hj4 hD
              have hok96 : xOk nL38 (va_up (va_up (va_up (va_up zL38 18 z2_91) 19 z3_92) 20 z4_93) 21 z5_94) FL38 := ((((hRLL38.1.s 18 (by decide) (show -2147483648 ≤ z2_91 ∧ z2_91 < 2147483648 by omega) (by omega)).s 19 (by decide) (show -2147483648 ≤ z3_92 ∧ z3_92 < 2147483648 by omega) (by omega)).s 20 (by decide) (show -2147483648 ≤ z4_93 ∧ z4_93 < 2147483648 by omega) (by omega)).s 21 (by decide) (show -2147483648 ≤ z5_94 ∧ z5_94 < 2147483648 by omega) (by omega))
              have hfr96 : xFr [17, 18, 19, 20, 21] [] z F (va_up (va_up (va_up (va_up zL38 18 z2_91) 19 z3_92) 20 z4_93) 21 z5_94) FL38 := ((((hRLL38.2.1.uz 18 (by decide) _).uz 19 (by decide) _).uz 20 (by decide) _).uz 21 (by decide) _)
              rw [← hQe]
              exact xk_vret (ov := (fun _ : (Nat → Nat) × (Nat → Nat) × (Nat → Int) × (Nat → Int → Int) × (Nat → Nat → Nat) × (Nat → Nat → Nat) × (Nat → Nat → Int) × (Nat → Nat → Int → Int) => none)) (post := (fun (u : (Nat → Nat) × (Nat → Nat) × (Nat → Int) × (Nat → Int → Int) × (Nat → Nat → Nat) × (Nat → Nat → Nat) × (Nat → Nat → Int) × (Nat → Nat → Int → Int)) (dn dm : Nat) => match u with | (r', n', z', F', Er', En', Ez', EF') => xR [17, 18, 19, 20, 21] [] [] [] N z F En Ez EF n' z' F' En' Ez' EF' ∧ (dn + xg n' ≤ xg n + 0 ∧ dm + xp n' ≤ xp n + 0) ∧ (True))) (ws := (fun u : (Nat → Nat) × (Nat → Nat) × (Nat → Int) × (Nat → Int → Int) × (Nat → Nat → Nat) × (Nat → Nat → Nat) × (Nat → Nat → Int) × (Nat → Nat → Int → Int) => match u with | (r', n', z', F', Er', En', Ez', EF') => (xU cI cB cE o r' n' z' F' G (Eo 0 0) ++ eP cI N Eo Er' En' Ez' EF'))) (tys := xT cI cB cE) (rL38, nL38, (va_up (va_up (va_up (va_up zL38 18 z2_91) 19 z3_92) 20 z4_93) 21 z5_94), FL38, Er, En, Ez, EF) hx hb hr hlocks rfl hP hD hK hS dX5_warnOf_117 (fun dn dm hdn hdm => ⟨⟨hok96, hfr96, hRLL38.2.2.1, hRLL38.2.2.2⟩, ⟨by omega, by omega⟩, trivial⟩) (by omega) (by omega)
        · skip
          refine lv_aload_n hx hb dX5_warnOf_49 rfl (lv_at hl 1 rfl) ?_
          refine va_getN (D := (dC, dI)) (ci := 0) (v := .ref (Eo j4 4)) (C := RX0) (T := TX0) (N := 12) hx hb hts kt_X0 hown hK hP 29 rfl rfl 6 (by decide) (va_Nw.use rfl (kx_nf hG kq_19_xouts_32)) (fun _ h9 => h9) rfl dX5_warnOf_50 ?_
          refine lv_iload_n hx hb dX5_warnOf_53 rfl (lv_at hl 0 rfl) ?_
          have hPc := hP.sub (ws' := (iU cI 5 (Eo j4 4) (Er j4 3) (En j4 3) (Ez j4 3) (EF j4 3))) [36, 37] rfl
          refine xk_pure (va_runV (As := [.int (iz k)]) (rest := []) ⟨hx, hb, hml, hown, hts⟩ (x_get l dC dI cI cB cE 5 (Eo j4 4) (Er j4 3) (En j4 3) (Ez j4 3) (EF j4 3) k H.size (by omega) ((hRLL38.2.2.1 j4 hj4).2.1 3) (by omega) (by omega)) (cwV 1 hts (kx_gV kq_18_xrows_41 kq_13_xints_4 kq_13_xints_5 kq_13_xints_6 kq_13_xints_7 rfl) rfl rfl rfl (by decide +kernel) ⟨Nat.le_of_ble_eq_true rfl, Nat.le_of_ble_eq_true rfl⟩) ⟨pPre_blind, va_recv hK hPc (ci := 1) (q0 := 0) rfl rfl, pPre_give hPc hK hG⟩ rfl rfl hl.1 rfl (lv_room (Nat.le_of_ble_eq_true rfl)) dX5_warnOf_54 ⟨show cv + 0 ≤ 100 from (by omega), show sv + 0 ≤ 42000 from (by omega)⟩) hS (fun z_98 locs hq_97 hS => ?_)
          refine W.eq (g2 := F0 m 57 ls [.int (iz z_98)]) rfl ?_
          try dsimp only at hq_97
          refine lv_istore (lv' := [(4, .int (iz z_98)), (3, .int (iz k)), (2, .ref (Eo j4 0)), (0, .ref (o 15)), (1, .int (iz p0))]) hx hb dX5_warnOf_57 hl (by decide) rfl (fun ls hl => ?_)
          refine lv_aload_n hx hb dX5_warnOf_59 rfl (lv_at hl 3 rfl) ?_
          refine lv_aload_n hx hb dX5_warnOf_60 rfl (lv_at hl 3 rfl) ?_
          refine lv_iload hx hb dX5_warnOf_61 (lv_at hl 0 rfl) ?_
          have hP := eP_un0 hj4 hP
          have hD := eD_un0 hj4 hD
          have hxz_99 : -2147483648 ≤ zL38 12 ∧ zL38 12 < 2147483648 := hRLL38.1.2.2.2.1 12
          have hxG9 : xG N (zL38 12) G Eo := ⟨by omega, by omega, by omega, fun e9 h9 => hN4 e9 (by omega)⟩
          have hP : va_P (dC, dI) kxCl (xU cI cB cE o rL38 nL38 zL38 FL38 G (Eo 0 0) ++ eP cI N Eo Er En Ez EF) H := hP
          refine xk_pure (va_runV (As := [.int (iz z_98)]) (rest := [.ref (o 15)]) ⟨hx, hb, hml, hown, hts⟩ (y_firstOf l dC dI cI cB cE o rL38 nL38 zL38 FL38 G N Eo Er En Ez EF z_98 H.size hRLL38.1 hxG9 hRLL38.2.2.1 (by omega) (by omega)) (cwV 1 hts (kx_gV kq_18_xrows_15 kq_18_xrows_16 kq_18_xrows_17 kq_18_xrows_4 kq_18_xrows_18 rfl) rfl rfl rfl (by decide +kernel) ⟨Nat.le_of_ble_eq_true rfl, Nat.le_of_ble_eq_true rfl⟩) ⟨pPre_blind, va_recv hK hP (ci := 5) (q0 := 0) rfl rfl, pPre_give hP hK hG⟩ rfl rfl hl.1 rfl (lv_room (Nat.le_of_ble_eq_true rfl)) dX5_warnOf_63 ⟨show cv + 0 ≤ 100 from (by omega), show sv + 0 ≤ 42000 from (by omega)⟩) hS (fun z_101 locs hq_100 hS => ?_)
          refine W.eq (g2 := F0 m 66 ls [.int (iz z_101), .ref (o 15)]) rfl ?_
          try dsimp only at hq_100
          have hxG9 : xG N (zL38 12) G Eo := ⟨by omega, by omega, by omega, fun e9 h9 => hN4 e9 (by omega)⟩
          have hP : va_P (dC, dI) kxCl (xU cI cB cE o rL38 nL38 zL38 FL38 G (Eo 0 0) ++ eP cI N Eo Er En Ez EF) H := hP
          refine xk_pure (va_runV (As := [.int (iz z_101)]) (rest := []) ⟨hx, hb, hml, hown, hts⟩ (y_known l dC dI cI cB cE o rL38 nL38 zL38 FL38 G N Eo Er En Ez EF z_101 H.size hRLL38.1 hxG9 hRLL38.2.2.1 (by omega) (by omega)) (cwV 1 hts (kx_gV kq_18_xrows_8 kq_18_xrows_9 kq_18_xrows_10 kq_18_xrows_4 kq_18_xrows_11 rfl) rfl rfl rfl (by decide +kernel) ⟨Nat.le_of_ble_eq_true rfl, Nat.le_of_ble_eq_true rfl⟩) ⟨pPre_blind, va_recv hK hP (ci := 5) (q0 := 0) rfl rfl, pPre_give hP hK hG⟩ rfl rfl hl.1 rfl (lv_room (Nat.le_of_ble_eq_true rfl)) dX5_warnOf_66 ⟨show cv + 0 ≤ 100 from (by omega), show sv + 0 ≤ 42000 from (by omega)⟩) hS (fun z_103 locs hq_102 hS => ?_)
          refine W.eq (g2 := F0 m 69 ls [.ref z_103.toNat]) rfl ?_
          try dsimp only at hq_102
          obtain ⟨j104, hj104, ez104, hje104⟩ := hq_102
          subst ez104
          refine W.eq (g2 := F0 m 69 ls [.ref (Eo j104 0)]) rfl ?_
          have hP := eP_foc hj104 hP
          have hD := eD_foc hj104 hD
          have hez_105 : -2147483648 ≤ Ez j104 11 ∧ Ez j104 11 < 2147483648 := (hRLL38.2.2.1 j104 hj104).2.2 11
          refine va_getN (D := (dC, dI)) (ci := 0) (v := .int (iz (Ez j104 11))) (C := RX0) (T := TX0) (N := 12) hx hb hts kt_X0 hown hK hP 29 rfl rfl 9 (by decide) (va_Nw.use rfl (kx_nf hG kq_19_xouts_37)) (fun _ h9 => h9) rfl dX5_warnOf_69 ?_
          refine ki_if_ne (tgt := 86) hx hb dX5_warnOf_72 (by decide) (by omega) (by omega) (fun c_106 => ?_) (fun c_106 => ?_)
          · skip
            refine lv_iinc (v := iz (k + 1)) (lv' := [(3, .int (iz (k + 1))), (4, .int (iz z_98)), (2, .ref (Eo j4 0)), (0, .ref (o 15)), (1, .int (iz p0))]) hx hb dX5_warnOf_86 hl (k := 1) rfl (iz_add k 1) (by decide) rfl (fun ls hl => ?_)
            refine lv_goto (tgt := 38) hx hb dX5_warnOf_89 (by decide) ?_
            have hP := eP_un0 hj104 hP
            have hD := eD_un0 hj104 hD
            exact ih38 (k + 1) rL38 nL38 zL38 FL38 cv sv ⟨⟨hRLL38.1, hRLL38.2.1, hRLL38.2.2.1, hRLL38.2.2.2⟩, ⟨by omega, by omega⟩, (show zL38 12 = z 12 by omega), by omega⟩ (by omega) _ _ hP hD hS ls (lv_sub hl [0, 2, 3, 4] rfl)
          · skip
            refine lv_aload_n hx hb dX5_warnOf_75 rfl (lv_at hl 3 rfl) ?_
            refine va_get (D := (dC, dI)) (ci := 5) (v := .ref (o 12)) (C := RX5) (T := TX5) (N := 16) hx hb hts kt_X5 hown hK hP 0 rfl rfl 12 (by decide) (kx_word hG kq_19_xouts_49 rfl) (fun _ h9 => h9) rfl dX5_warnOf_76 ?_
            refine lv_iconst (v := iz 2) hx hb dX5_warnOf_79 (by decide) ?_
            refine lv_iload_n hx hb dX5_warnOf_80 rfl (lv_at hl 4 rfl) ?_
            refine lv_iload hx hb dX5_warnOf_81 (lv_at hl 0 rfl) ?_
            have hxz_107 : -2147483648 ≤ zL38 17 ∧ zL38 17 < 2147483648 := hRLL38.1.2.2.2.1 17
            have hxz_108 : -2147483648 ≤ zL38 18 ∧ zL38 18 < 2147483648 := hRLL38.1.2.2.2.1 18
            have hxz_109 : -2147483648 ≤ zL38 19 ∧ zL38 19 < 2147483648 := hRLL38.1.2.2.2.1 19
            have hxz_110 : -2147483648 ≤ zL38 20 ∧ zL38 20 < 2147483648 := hRLL38.1.2.2.2.1 20
            have hxz_111 : -2147483648 ≤ zL38 21 ∧ zL38 21 < 2147483648 := hRLL38.1.2.2.2.1 21
            have hPc := hP.sub (ws' := (wU (o 12) (zL38 17) (zL38 18) (zL38 19) (zL38 20) (zL38 21))) [24] rfl
            have hDc := hD.sub (ws' := (wU (o 12) (zL38 17) (zL38 18) (zL38 19) (zL38 20) (zL38 21))) [24] (by decide) rfl
            have hFc := va_free (wc := (wU (o 12) (zL38 17) (zL38 18) (zL38 19) (zL38 20) (zL38 21))) hD hS hA [24] rfl
            refine xk_call (va_runV (As := [.int (iz 2), .int (iz p0), .int (iz z_98)]) (rest := []) ⟨hx, hb, hml, hown, hts⟩ (x_tell l dC dI cI cB cE (o 12) (zL38 17) (zL38 18) (zL38 19) (zL38 20) (zL38 21) 2 p0 z_98 H.size (by omega) (by omega) (by omega) (by omega) (by omega) (by omega) (by omega) (by omega) (by omega) (by omega) (by omega)) (cwV 3 hts (kx_gV kq_19_xouts_50 kq_19_xouts_51 kq_19_xouts_52 kq_19_xouts_53 kq_19_xouts_54 rfl) rfl rfl rfl (by decide +kernel) ⟨Nat.le_of_ble_eq_true rfl, Nat.le_of_ble_eq_true rfl⟩) ⟨kx_blind, va_recv hK hPc (ci := 4) (q0 := 0) rfl rfl, kx_give (ws := []) (tys := []) hPc hDc hK hG hZ hS hFc⟩ rfl rfl hl.1 rfl (lv_room (Nat.le_of_ble_eq_true rfl)) dX5_warnOf_83 ⟨show cv + 0 ≤ 100 from (by omega), show sv + 0 ≤ 42000 from (by omega)⟩) hS (fun q _ h => hFc q h) hFc (fun u dn_113 dm_114 t H locs ht hvm hq_112 hB hk1 hS => ?_)
            obtain ⟨z2_115, z3_116, z4_117, z5_118⟩ := u
            obtain ⟨hP1, hK1, hD1⟩ := hB
            rw [ht] at hP1
            obtain ⟨hP, hD⟩ := xj_pool (wr := [(o 15, .inr (5, [.ref (o 16), .ref (Eo 0 0), .int (iz (zL38 12)), .int (iz (zL38 13)), .int (iz (zL38 14)), .ref (o 0), .ref (o 1), .int (iz (zL38 15)), .ref (o 13), .ref (o 14), .int (iz (zL38 16)), .ref (o 2), .ref (o 12), .ref (o 3), .ref (o 10), .ref (o 11)])), (o 16, .inl (cE, 80, .inr (.inr (.inr (.inr G))))), (o 0, .inr (1, [.int (iz 80), .ref (rL38 0), .int (iz (zL38 0))])), (rL38 0, .inl (cI, nL38 0, .inl (iA (FL38 0)))), (o 1, .inr (1, [.int (iz 80), .ref (rL38 1), .int (iz (zL38 1))])), (rL38 1, .inl (cI, nL38 1, .inl (iA (FL38 1)))), (o 2, .inr (1, [.int (iz 80), .ref (rL38 2), .int (iz (zL38 2))])), (rL38 2, .inl (cI, nL38 2, .inl (iA (FL38 2)))), (o 3, .inr (1, [.int (iz 80), .ref (rL38 3), .int (iz (zL38 3))])), (rL38 3, .inl (cI, nL38 3, .inl (iA (FL38 3)))), (o 13, .inr (3, [.ref (o 4), .ref (o 5), .ref (o 6)])), (o 4, .inr (1, [.int (iz 1600), .ref (rL38 4), .int (iz (zL38 4))])), (rL38 4, .inl (cI, nL38 4, .inl (iA (FL38 4)))), (o 5, .inr (1, [.int (iz 1600), .ref (rL38 5), .int (iz (zL38 5))])), (rL38 5, .inl (cI, nL38 5, .inl (iA (FL38 5)))), (o 6, .inr (1, [.int (iz 1600), .ref (rL38 6), .int (iz (zL38 6))])), (rL38 6, .inl (cI, nL38 6, .inl (iA (FL38 6)))), (o 14, .inr (3, [.ref (o 7), .ref (o 8), .ref (o 9)])), (o 7, .inr (1, [.int (iz 1600), .ref (rL38 7), .int (iz (zL38 7))])), (rL38 7, .inl (cI, nL38 7, .inl (iA (FL38 7)))), (o 8, .inr (1, [.int (iz 1600), .ref (rL38 8), .int (iz (zL38 8))])), (rL38 8, .inl (cI, nL38 8, .inl (iA (FL38 8)))), (o 9, .inr (1, [.int (iz 1600), .ref (rL38 9), .int (iz (zL38 9))])), (rL38 9, .inl (cI, nL38 9, .inl (iA (FL38 9)))), (o 10, .inr (2, [.ref (rL38 10), .int (iz (zL38 10)), .int (iz (zL38 22))])), (rL38 10, .inl (cB, nL38 10, .inl (iA (FL38 10)))), (o 11, .inr (2, [.ref (rL38 11), .int (iz (zL38 11)), .int (iz (zL38 23))])), (rL38 11, .inl (cB, nL38 11, .inl (iA (FL38 11)))), (Eo j104 0, .inr (0, [.int (iz (Ez j104 7)), .int (iz (Ez j104 8)), .ref (Eo j104 1), .ref (Eo j104 2), .ref (Eo j104 3), .ref (Eo j104 5), .ref (Eo j104 4), .int (iz (Ez j104 9)), .int (iz (Ez j104 10)), .int (iz (Ez j104 11)), .int (iz (Ez j104 12)), .int (iz (Ez j104 13))])), (Eo j104 1, .inr (1, [.int (iz 20), .ref (Er j104 0), .int (iz (Ez j104 0))])), (Er j104 0, .inl (cI, En j104 0, .inl (iA (EF j104 0)))), (Eo j104 2, .inr (1, [.int (iz 20), .ref (Er j104 1), .int (iz (Ez j104 1))])), (Er j104 1, .inl (cI, En j104 1, .inl (iA (EF j104 1)))), (Eo j104 3, .inr (1, [.int (iz 40), .ref (Er j104 2), .int (iz (Ez j104 2))])), (Er j104 2, .inl (cI, En j104 2, .inl (iA (EF j104 2)))), (Eo j104 4, .inr (1, [.int (iz 5), .ref (Er j104 3), .int (iz (Ez j104 3))])), (Er j104 3, .inl (cI, En j104 3, .inl (iA (EF j104 3)))), (Eo j104 5, .inr (3, [.ref (Eo j104 6), .ref (Eo j104 7), .ref (Eo j104 8)])), (Eo j104 6, .inr (1, [.int (iz 20), .ref (Er j104 4), .int (iz (Ez j104 4))])), (Er j104 4, .inl (cI, En j104 4, .inl (iA (EF j104 4)))), (Eo j104 7, .inr (1, [.int (iz 20), .ref (Er j104 5), .int (iz (Ez j104 5))])), (Er j104 5, .inl (cI, En j104 5, .inl (iA (EF j104 5)))), (Eo j104 8, .inr (1, [.int (iz 20), .ref (Er j104 6), .int (iz (Ez j104 6))])), (Er j104 6, .inl (cI, En j104 6, .inl (iA (EF j104 6))))]) (w1 := (wU (o 12) (zL38 17) z2_115 z3_116 z4_117 z5_118)) (ws' := ((xU cI cB cE o rL38 nL38 (va_up (va_up (va_up (va_up zL38 18 z2_115) 19 z3_116) 20 z4_117) 21 z5_118) FL38 G (Eo 0 0)) ++ (eU cI (Eo j104) (Er j104) (En j104) (Ez j104) (EF j104)))) hP hD [24] [0, 1, 2, 3, 4, 5, 6, 7, 8, 9, 10, 11, 12, 13, 14, 15, 16, 17, 18, 19, 20, 21, 22, 23, 25, 26, 27, 28, 29, 30, 31, 32, 33, 34, 35, 36, 37, 38, 39, 40, 41, 42, 43, 44] [0, 1, 2, 3, 4, 5, 6, 7, 8, 9, 10, 11, 12, 13, 14, 15, 16, 17, 18, 19, 20, 21, 22, 23, 44, 24, 25, 26, 27, 28, 29, 30, 31, 32, 33, 34, 35, 36, 37, 38, 39, 40, 41, 42, 43] rfl rfl (by decide) (by decide) hk1 hFc hP1 hD1 rfl (by decide)
            refine W.eq (g2 := F0 m 86 ls []) rfl ?_
            try dsimp only at hq_112
            obtain ⟨hd119, hm119, hw119⟩ := hq_112
            subst hd119
            subst hm119
            refine lv_iinc (v := iz (k + 1)) (lv' := [(3, .int (iz (k + 1))), (4, .int (iz z_98)), (2, .ref (Eo j4 0)), (0, .ref (o 15)), (1, .int (iz p0))]) hx hb dX5_warnOf_86 hl (k := 1) rfl (iz_add k 1) (by decide) rfl (fun ls hl => ?_)
            refine lv_goto (tgt := 38) hx hb dX5_warnOf_89 (by decide) ?_
            have hP := eP_un0 hj104 hP
            have hD := eD_un0 hj104 hD
            have hok120 : xOk nL38 (va_up (va_up (va_up (va_up zL38 18 z2_115) 19 z3_116) 20 z4_117) 21 z5_118) FL38 := ((((hRLL38.1.s 18 (by decide) (show -2147483648 ≤ z2_115 ∧ z2_115 < 2147483648 by omega) (by omega)).s 19 (by decide) (show -2147483648 ≤ z3_116 ∧ z3_116 < 2147483648 by omega) (by omega)).s 20 (by decide) (show -2147483648 ≤ z4_117 ∧ z4_117 < 2147483648 by omega) (by omega)).s 21 (by decide) (show -2147483648 ≤ z5_118 ∧ z5_118 < 2147483648 by omega) (by omega))
            have hfr120 : xFr [17, 18, 19, 20, 21] [] z F (va_up (va_up (va_up (va_up zL38 18 z2_115) 19 z3_116) 20 z4_117) 21 z5_118) FL38 := ((((hRLL38.2.1.uz 18 (by decide) _).uz 19 (by decide) _).uz 20 (by decide) _).uz 21 (by decide) _)
            exact ih38 (k + 1) rL38 nL38 (va_up (va_up (va_up (va_up zL38 18 z2_115) 19 z3_116) 20 z4_117) 21 z5_118) FL38 (cv + 0) (sv + 0) ⟨⟨hok120, hfr120, hRLL38.2.2.1, hRLL38.2.2.2⟩, ⟨by omega, by omega⟩, (show zL38 12 = z 12 by omega), by omega⟩ (by omega) _ _ hP hD hS ls (lv_sub hl [0, 2, 3, 4] rfl)
    exact lp38 _ 0 r n (va_up (va_up (va_up (va_up z 18 z2_68) 19 z3_69) 20 z4_70) 21 z5_71) F (0 + 0) (0 + 0) ⟨⟨hok73, hfr73, hPE, hef⟩, ⟨by omega, by omega⟩, (show z 12 = z 12 by omega), by omega⟩ (Nat.lt_succ_self _) _ _ hP hD hS ls (lv_sub hl [0, 1, 2, 3] rfl)
set_option maxHeartbeats 4000000 in
set_option maxRecDepth 100000 in
theorem x_isMark (l : Launch) (dC : Nat → ClassId) (dI : Nat → Nat → Nat) (cI cB cE : ClassId) (p0 : Int) (sz : Nat) (hp01 : -2147483648 ≤ p0) (hp02 : p0 < 2147483648) : Met l yX5_isMark [.code yX5_isMark cX5_isMark 1 (some .boolean)] ({ frames := 0, cells := 0, slots := 0, locals := 0 }) (va_Pc [.int (iz p0)] (pPre dC dI [] (xT cI cB cE) sz)) (pQ (fun z => some (.int (iz z))) (fun (q : Int) => q = 0 ∨ q = 1)) 0 0 (fun _ => False) := by
  refine Met.ofW (cc := cX5_isMark) (maxL := 1) (ret := (some .boolean)) (by decide) rfl ?_
  intro p e s m args below meth c s₁ B hml hv
  obtain ⟨rfl, hsz, hP, hK, hG⟩ := hv
  have hx := B.exec
  have hb := B.bytes
  have hr := B.returns
  have hts := kx_hts (a := ([.int (iz p0)] : List Value).toArray) hG
  have hown : s.vm.findClass RX5 = some m.cls := findClass_of_methodNamed B.named
  have hlocks := B.notSynchronized
  subst hsz
  have hS : va_S (fun _ => False) s.heap s.heap [] := va_S.rf
  have hl := lv_entry ([.int (iz p0)]) (n := 1) (Nat.le_of_ble_eq_true rfl)
  rw [lg_entry_eq]
  generalize (lg_sl ([.int (iz p0)]) ++ List.replicate (1 - (lg_sl ([.int (iz p0)])).length) Slot.unset).toArray = ls at hl ⊢
  have hl : lv_has ls 1 [(0, .int (iz p0))] := hl
  refine lv_iload_n hx hb dX5_isMark_0 rfl (lv_at hl 0 rfl) ?_
  refine lv_bipush (v := iz 119) hx hb dX5_isMark_1 (by decide) ?_
  refine ki_icmp_eq (tgt := 36) hx hb dX5_isMark_3 (by decide) (by omega) (by omega) (by omega) (by omega) (fun c_1 => ?_) (fun c_1 => ?_)
  · skip
    refine lv_iconst (v := iz 1) hx hb dX5_isMark_36 (by decide) ?_
    refine lv_goto (tgt := 41) hx hb dX5_isMark_37 (by decide) ?_
    exact xp_iret (z := 1) hx hb hr (mz_bool (by omega)).1 hlocks rfl hS.2.2 dX5_isMark_41 (by omega)
  · skip
    refine lv_iload_n hx hb dX5_isMark_6 rfl (lv_at hl 0 rfl) ?_
    refine lv_bipush (v := iz 112) hx hb dX5_isMark_7 (by decide) ?_
    refine ki_icmp_eq (tgt := 36) hx hb dX5_isMark_9 (by decide) (by omega) (by omega) (by omega) (by omega) (fun c_2 => ?_) (fun c_2 => ?_)
    · skip
      refine lv_iconst (v := iz 1) hx hb dX5_isMark_36 (by decide) ?_
      refine lv_goto (tgt := 41) hx hb dX5_isMark_37 (by decide) ?_
      exact xp_iret (z := 1) hx hb hr (mz_bool (by omega)).1 hlocks rfl hS.2.2 dX5_isMark_41 (by omega)
    · skip
      refine lv_iload_n hx hb dX5_isMark_12 rfl (lv_at hl 0 rfl) ?_
      refine lv_bipush (v := iz 115) hx hb dX5_isMark_13 (by decide) ?_
      refine ki_icmp_eq (tgt := 36) hx hb dX5_isMark_15 (by decide) (by omega) (by omega) (by omega) (by omega) (fun c_3 => ?_) (fun c_3 => ?_)
      · skip
        refine lv_iconst (v := iz 1) hx hb dX5_isMark_36 (by decide) ?_
        refine lv_goto (tgt := 41) hx hb dX5_isMark_37 (by decide) ?_
        exact xp_iret (z := 1) hx hb hr (mz_bool (by omega)).1 hlocks rfl hS.2.2 dX5_isMark_41 (by omega)
      · skip
        refine lv_iload_n hx hb dX5_isMark_18 rfl (lv_at hl 0 rfl) ?_
        refine lv_bipush (v := iz 103) hx hb dX5_isMark_19 (by decide) ?_
        refine ki_icmp_eq (tgt := 36) hx hb dX5_isMark_21 (by decide) (by omega) (by omega) (by omega) (by omega) (fun c_4 => ?_) (fun c_4 => ?_)
        · skip
          refine lv_iconst (v := iz 1) hx hb dX5_isMark_36 (by decide) ?_
          refine lv_goto (tgt := 41) hx hb dX5_isMark_37 (by decide) ?_
          exact xp_iret (z := 1) hx hb hr (mz_bool (by omega)).1 hlocks rfl hS.2.2 dX5_isMark_41 (by omega)
        · skip
          refine lv_iload_n hx hb dX5_isMark_24 rfl (lv_at hl 0 rfl) ?_
          refine lv_bipush (v := iz 110) hx hb dX5_isMark_25 (by decide) ?_
          refine ki_icmp_eq (tgt := 36) hx hb dX5_isMark_27 (by decide) (by omega) (by omega) (by omega) (by omega) (fun c_5 => ?_) (fun c_5 => ?_)
          · skip
            refine lv_iconst (v := iz 1) hx hb dX5_isMark_36 (by decide) ?_
            refine lv_goto (tgt := 41) hx hb dX5_isMark_37 (by decide) ?_
            exact xp_iret (z := 1) hx hb hr (mz_bool (by omega)).1 hlocks rfl hS.2.2 dX5_isMark_41 (by omega)
          · skip
            refine lv_iload_n hx hb dX5_isMark_30 rfl (lv_at hl 0 rfl) ?_
            refine lv_bipush (v := iz 37) hx hb dX5_isMark_31 (by decide) ?_
            refine ki_icmp_ne (tgt := 40) hx hb dX5_isMark_33 (by decide) (by omega) (by omega) (by omega) (by omega) (fun c_6 => ?_) (fun c_6 => ?_)
            · skip
              refine lv_iconst (v := iz 0) hx hb dX5_isMark_40 (by decide) ?_
              exact xp_iret (z := 0) hx hb hr (mz_bool (by omega)).1 hlocks rfl hS.2.2 dX5_isMark_41 (by omega)
            · skip
              refine lv_iconst (v := iz 1) hx hb dX5_isMark_36 (by decide) ?_
              refine lv_goto (tgt := 41) hx hb dX5_isMark_37 (by decide) ?_
              exact xp_iret (z := 1) hx hb hr (mz_bool (by omega)).1 hlocks rfl hS.2.2 dX5_isMark_41 (by omega)
set_option maxHeartbeats 4000000 in
set_option maxRecDepth 100000 in
theorem y_firstFault (l : Launch) (dC : Nat → ClassId) (dI : Nat → Nat → Nat) (cI cB cE : ClassId) (o r n : Nat → Nat) (z : Nat → Int) (F : Nat → Int → Int) (G : Nat → Option Nat) (N : Nat) (Eo Er En : Nat → Nat → Nat) (Ez : Nat → Nat → Int) (EF : Nat → Nat → Int → Int) (sz : Nat) (hok : xOk n z F) (hxG : xG N (z 12) G Eo) (hPE : eA N En Ez EF) : Met l yX5_firstFault [.code yX5_firstFault cX5_firstFault 4 (some .int)] ({ frames := 1, cells := 0, slots := 0, locals := 21 }) (va_Pc [.ref (o 15)] (pPre dC dI (xU cI cB cE o r n z F G (Eo 0 0) ++ eP cI N Eo Er En Ez EF) (xT cI cB cE) sz)) (pQ (fun z => some (.int (iz z))) (fun (q : Int) => -1 ≤ q ∧ q ≤ 80)) 0 0 (fun _ => False) := by
  refine Met.ofW (cc := cX5_firstFault) (maxL := 4) (ret := (some .int)) (by decide) rfl ?_
  intro p e s m args below meth c s₁ B hml hv
  obtain ⟨rfl, hsz, hP, hK, hG⟩ := hv
  have hx := B.exec
  have hb := B.bytes
  have hr := B.returns
  have hts := kx_hts (a := ([.ref (o 15)] : List Value).toArray) hG
  have hown : s.vm.findClass RX5 = some m.cls := findClass_of_methodNamed B.named
  have hlocks := B.notSynchronized
  subst hsz
  have hS : va_S (fun _ => False) s.heap s.heap [] := va_S.rf
  have hl := lv_entry ([.ref (o 15)]) (n := 4) (Nat.le_of_ble_eq_true rfl)
  rw [lg_entry_eq]
  generalize (lg_sl ([.ref (o 15)]) ++ List.replicate (4 - (lg_sl ([.ref (o 15)])).length) Slot.unset).toArray = ls at hl ⊢
  obtain ⟨hN1, hN2, hN3, hN4⟩ := hxG
  have hl : lv_has ls 4 [(0, .ref (o 15))] := hl
  generalize hQe : MQ below (pQ (fun z => some (.int (iz z))) (fun (q : Int) => -1 ≤ q ∧ q ≤ 80)) ([.ref (o 15)] : List Value).toArray s 0 0 (fun _ => False) = QQ
  have hz3 : 0 ≤ z 3 ∧ z 3 ≤ (n 3 : Int) ∧ (n 3 : Int) ≤ 80 := hok.1 3 (by decide)
  refine lv_iconst (v := iz 0) hx hb dX5_firstFault_0 (by decide) ?_
  refine lv_istore_n (lv' := [(1, .int (iz 0)), (0, .ref (o 15))]) hx hb dX5_firstFault_1 rfl hl (by decide) rfl (fun ls hl => ?_)
  refine lv_iconst (v := iz 0) hx hb dX5_firstFault_2 (by decide) ?_
  refine lv_istore_n (lv' := [(2, .int (iz 0)), (1, .int (iz 0)), (0, .ref (o 15))]) hx hb dX5_firstFault_3 rfl hl (by decide) rfl (fun ls hl => ?_)
  have lp4 : ∀ (n0 : Nat) (b : Int) (k : Int), ((0 ≤ b ∧ b ≤ 3) ∧ (0 ≤ k ∧ k ≤ 81)) → (z 3 - k).toNat < n0 → ∀ (locs : List Loc), va_S (fun _ => False) s.heap s.heap locs → ∀ ls : Array Slot, lv_has ls 4 [(2, .int (iz k)), (1, .int (iz b)), (0, .ref (o 15))] → W p l e (headSpec [.code yX5_firstFault cX5_firstFault 4 (some .int)] ({ frames := 1, cells := 0, slots := 0, locals := 21 })).room s m ([.ref (o 15)] : List Value).toArray below meth c s.heap locs 0 0 QQ (F0 m 4 ls []) := by
    intro n0
    induction n0 with
    | zero => intro b k hinv hm0; exact absurd hm0 (Nat.not_lt_zero _)
    | succ n0 ih4 =>
      intro b k hinv hm0 locs hS ls hl
      obtain ⟨hb9, hk⟩ := hinv
      refine lv_iload_n hx hb dX5_firstFault_4 rfl (lv_at hl 0 rfl) ?_
      refine lv_aload_n hx hb dX5_firstFault_5 rfl (lv_at hl 2 rfl) ?_
      refine va_get (D := (dC, dI)) (ci := 5) (v := .ref (o 3)) (C := RX5) (T := TX5) (N := 16) hx hb hts kt_X5 hown hK hP 0 rfl rfl 13 (by decide) (kx_word hG kq_19_xouts_56 rfl) (fun _ h9 => h9) rfl dX5_firstFault_6 ?_
      have hxi_1 : 0 ≤ z 3 ∧ z 3 ≤ ((n 3 : Nat) : Int) ∧ ((n 3 : Nat) : Int) ≤ 80 := hok.1 3 (by decide)
      have hPc := hP.sub (ws' := (iU cI 80 (o 3) (r 3) (n 3) (z 3) (F 3))) [8, 9] rfl
      refine xk_pure (va_runV (As := []) (rest := [.int (iz k)]) ⟨hx, hb, hml, hown, hts⟩ (x_size l dC dI cI cB cE 80 (o 3) (r 3) (n 3) (z 3) (F 3)  s.heap.size ) (cwV 0 hts (kx_gV kq_18_xrows_40 kq_15_xspan_10 kq_15_xspan_11 kq_13_xints_6 kq_15_xspan_12 rfl) rfl rfl rfl (by decide +kernel) ⟨Nat.le_of_ble_eq_true rfl, Nat.le_of_ble_eq_true rfl⟩) ⟨pPre_blind, va_recv hK hPc (ci := 1) (q0 := 0) rfl rfl, pPre_give hPc hK hG⟩ rfl rfl hl.1 rfl (lv_room (Nat.le_of_ble_eq_true rfl)) dX5_firstFault_9 ⟨Nat.le_of_ble_eq_true rfl, Nat.le_of_ble_eq_true rfl⟩) hS (fun z_3 locs hq_2 hS => ?_)
      refine W.eq (g2 := F0 m 12 ls [.int (iz z_3), .int (iz k)]) rfl ?_
      try dsimp only at hq_2
      have hq_2 := hq_2.symm
      subst hq_2
      refine ki_icmp_ge (tgt := 76) hx hb dX5_firstFault_12 (by decide) (by omega) (by omega) (by omega) (by omega) (fun c_4 => ?_) (fun c_4 => ?_)
      · skip
        refine lv_iload_n hx hb dX5_firstFault_76 rfl (lv_at hl 1 rfl) ?_
        refine lv_iconst (v := iz 3) hx hb dX5_firstFault_77 (by decide) ?_
        refine ki_icmp_ge (tgt := 91) hx hb dX5_firstFault_78 (by decide) (by omega) (by omega) (by omega) (by omega) (fun c_5 => ?_) (fun c_5 => ?_)
        · skip
          refine lv_iconst (v := iz (-1)) hx hb dX5_firstFault_91 (by decide) ?_
          rw [← hQe]
          exact xp_iret (z := (-1)) hx hb hr rfl hlocks rfl hS.2.2 dX5_firstFault_92 (by omega)
        · skip
          refine lv_aload_n hx hb dX5_firstFault_81 rfl (lv_at hl 2 rfl) ?_
          refine va_get (D := (dC, dI)) (ci := 5) (v := .ref (o 3)) (C := RX5) (T := TX5) (N := 16) hx hb hts kt_X5 hown hK hP 0 rfl rfl 13 (by decide) (kx_word hG kq_19_xouts_56 rfl) (fun _ h9 => h9) rfl dX5_firstFault_82 ?_
          have hPc := hP.sub (ws' := (iU cI 80 (o 3) (r 3) (n 3) (z 3) (F 3))) [8, 9] rfl
          refine xk_pure (va_runV (As := []) (rest := []) ⟨hx, hb, hml, hown, hts⟩ (x_size l dC dI cI cB cE 80 (o 3) (r 3) (n 3) (z 3) (F 3)  s.heap.size ) (cwV 0 hts (kx_gV kq_18_xrows_40 kq_15_xspan_10 kq_15_xspan_11 kq_13_xints_6 kq_15_xspan_12 rfl) rfl rfl rfl (by decide +kernel) ⟨Nat.le_of_ble_eq_true rfl, Nat.le_of_ble_eq_true rfl⟩) ⟨pPre_blind, va_recv hK hPc (ci := 1) (q0 := 0) rfl rfl, pPre_give hPc hK hG⟩ rfl rfl hl.1 rfl (lv_room (Nat.le_of_ble_eq_true rfl)) dX5_firstFault_85 ⟨Nat.le_of_ble_eq_true rfl, Nat.le_of_ble_eq_true rfl⟩) hS (fun z_7 locs hq_6 hS => ?_)
          refine W.eq (g2 := F0 m 88 ls [.int (iz z_7)]) rfl ?_
          try dsimp only at hq_6
          have hq_6 := hq_6.symm
          subst hq_6
          refine lv_goto (tgt := 92) hx hb dX5_firstFault_88 (by decide) ?_
          rw [← hQe]
          exact xp_iret (z := z 3) hx hb hr rfl hlocks rfl hS.2.2 dX5_firstFault_92 (by omega)
      · skip
        refine lv_aload_n hx hb dX5_firstFault_15 rfl (lv_at hl 2 rfl) ?_
        refine va_get (D := (dC, dI)) (ci := 5) (v := .ref (o 3)) (C := RX5) (T := TX5) (N := 16) hx hb hts kt_X5 hown hK hP 0 rfl rfl 13 (by decide) (kx_word hG kq_19_xouts_56 rfl) (fun _ h9 => h9) rfl dX5_firstFault_16 ?_
        refine lv_iload_n hx hb dX5_firstFault_19 rfl (lv_at hl 0 rfl) ?_
        have hPc := hP.sub (ws' := (iU cI 80 (o 3) (r 3) (n 3) (z 3) (F 3))) [8, 9] rfl
        refine xk_pure (va_runV (As := [.int (iz k)]) (rest := []) ⟨hx, hb, hml, hown, hts⟩ (x_get l dC dI cI cB cE 80 (o 3) (r 3) (n 3) (z 3) (F 3) k s.heap.size (by omega) (hok.2.2.1 3) (by omega) (by omega)) (cwV 1 hts (kx_gV kq_18_xrows_41 kq_13_xints_4 kq_13_xints_5 kq_13_xints_6 kq_13_xints_7 rfl) rfl rfl rfl (by decide +kernel) ⟨Nat.le_of_ble_eq_true rfl, Nat.le_of_ble_eq_true rfl⟩) ⟨pPre_blind, va_recv hK hPc (ci := 1) (q0 := 0) rfl rfl, pPre_give hPc hK hG⟩ rfl rfl hl.1 rfl (lv_room (Nat.le_of_ble_eq_true rfl)) dX5_firstFault_20 ⟨Nat.le_of_ble_eq_true rfl, Nat.le_of_ble_eq_true rfl⟩) hS (fun z_9 locs hq_8 hS => ?_)
        refine W.eq (g2 := F0 m 23 ls [.int (iz z_9)]) rfl ?_
        try dsimp only at hq_8
        refine lv_istore_n (lv' := [(3, .int (iz z_9)), (2, .int (iz k)), (1, .int (iz b)), (0, .ref (o 15))]) hx hb dX5_firstFault_23 rfl hl (by decide) rfl (fun ls hl => ?_)
        refine lv_iload_n hx hb dX5_firstFault_24 rfl (lv_at hl 0 rfl) ?_
        refine lv_bipush (v := iz 37) hx hb dX5_firstFault_25 (by decide) ?_
        refine ki_icmp_ne (tgt := 54) hx hb dX5_firstFault_27 (by decide) (by omega) (by omega) (by omega) (by omega) (fun c_10 => ?_) (fun c_10 => ?_)
        · skip
          refine lv_iload_n hx hb dX5_firstFault_54 rfl (lv_at hl 0 rfl) ?_
          refine lv_bipush (v := iz 124) hx hb dX5_firstFault_55 (by decide) ?_
          refine ki_icmp_ne (tgt := 70) hx hb dX5_firstFault_57 (by decide) (by omega) (by omega) (by omega) (by omega) (fun c_11 => ?_) (fun c_11 => ?_)
          · skip
            refine lv_iinc (v := iz (k + 1)) (lv' := [(2, .int (iz (k + 1))), (3, .int (iz z_9)), (1, .int (iz b)), (0, .ref (o 15))]) hx hb dX5_firstFault_70 hl (k := 1) rfl (iz_add k 1) (by decide) rfl (fun ls hl => ?_)
            refine lv_goto (tgt := 4) hx hb dX5_firstFault_73 (by decide) ?_
            exact ih4 b (k + 1) ⟨by omega, by omega⟩ (by omega) _ hS ls (lv_sub hl [0, 2, 3] rfl)
          · skip
            refine lv_iinc (v := iz (b + 1)) (lv' := [(1, .int (iz (b + 1))), (3, .int (iz z_9)), (2, .int (iz k)), (0, .ref (o 15))]) hx hb dX5_firstFault_60 hl (k := 2) rfl (iz_add b 1) (by decide) rfl (fun ls hl => ?_)
            refine lv_iload_n hx hb dX5_firstFault_63 rfl (lv_at hl 0 rfl) ?_
            refine lv_iconst (v := iz 3) hx hb dX5_firstFault_64 (by decide) ?_
            refine ki_icmp_le (tgt := 70) hx hb dX5_firstFault_65 (by decide) (by omega) (by omega) (by omega) (by omega) (fun c_12 => ?_) (fun c_12 => ?_)
            · skip
              refine lv_iinc (v := iz (k + 1)) (lv' := [(2, .int (iz (k + 1))), (1, .int (iz (b + 1))), (3, .int (iz z_9)), (0, .ref (o 15))]) hx hb dX5_firstFault_70 hl (k := 2) rfl (iz_add k 1) (by decide) rfl (fun ls hl => ?_)
              refine lv_goto (tgt := 4) hx hb dX5_firstFault_73 (by decide) ?_
              exact ih4 (b + 1) (k + 1) ⟨by omega, by omega⟩ (by omega) _ hS ls (lv_sub hl [0, 1, 3] rfl)
            · skip
              refine lv_iload_n hx hb dX5_firstFault_68 rfl (lv_at hl 2 rfl) ?_
              rw [← hQe]
              exact xp_iret (z := k) hx hb hr rfl hlocks rfl hS.2.2 dX5_firstFault_69 (by omega)
        · skip
          refine lv_aload_n hx hb dX5_firstFault_30 rfl (lv_at hl 3 rfl) ?_
          refine va_get (D := (dC, dI)) (ci := 5) (v := .ref (o 3)) (C := RX5) (T := TX5) (N := 16) hx hb hts kt_X5 hown hK hP 0 rfl rfl 13 (by decide) (kx_word hG kq_19_xouts_56 rfl) (fun _ h9 => h9) rfl dX5_firstFault_31 ?_
          refine lv_iload_n hx hb dX5_firstFault_34 rfl (lv_at hl 1 rfl) ?_
          refine lv_iconst (v := iz 1) hx hb dX5_firstFault_35 (by decide) ?_
          refine ki_iadd hx hb dX5_firstFault_36 ?_
          have hPc := hP.sub (ws' := (iU cI 80 (o 3) (r 3) (n 3) (z 3) (F 3))) [8, 9] rfl
          refine xk_pure (va_runV (As := [.int (iz (k + 1))]) (rest := []) ⟨hx, hb, hml, hown, hts⟩ (x_get l dC dI cI cB cE 80 (o 3) (r 3) (n 3) (z 3) (F 3) (k + 1) s.heap.size (by omega) (hok.2.2.1 3) (by omega) (by omega)) (cwV 1 hts (kx_gV kq_18_xrows_41 kq_13_xints_4 kq_13_xints_5 kq_13_xints_6 kq_13_xints_7 rfl) rfl rfl rfl (by decide +kernel) ⟨Nat.le_of_ble_eq_true rfl, Nat.le_of_ble_eq_true rfl⟩) ⟨pPre_blind, va_recv hK hPc (ci := 1) (q0 := 0) rfl rfl, pPre_give hPc hK hG⟩ rfl rfl hl.1 rfl (lv_room (Nat.le_of_ble_eq_true rfl)) dX5_firstFault_37 ⟨Nat.le_of_ble_eq_true rfl, Nat.le_of_ble_eq_true rfl⟩) hS (fun z_14 locs hq_13 hS => ?_)
          refine W.eq (g2 := F0 m 40 ls [.int (iz z_14)]) rfl ?_
          try dsimp only at hq_13
          have hPc : va_P (dC, dI) kxCl [] s.heap := fun k q h => by simp at h
          refine xk_pure (va_runS (As := [.int (iz z_14)]) (rest := []) ⟨hx, hb, hml, hown, hts⟩ (x_isMark l dC dI cI cB cE z_14 s.heap.size (by omega) (by omega)) (va_cwS 1 hts (kx_gS kq_19_xouts_57 kq_19_xouts_58 kq_18_xrows_4 kq_19_xouts_59 rfl) rfl rfl rfl (by decide +kernel) ⟨Nat.le_of_ble_eq_true rfl, Nat.le_of_ble_eq_true rfl⟩) ⟨pPre_blind, pPre_give hPc hK hG⟩ rfl rfl hl.1 rfl (lv_room (Nat.le_of_ble_eq_true rfl)) dX5_firstFault_40 ⟨Nat.le_of_ble_eq_true rfl, Nat.le_of_ble_eq_true rfl⟩) hS (fun z_16 locs hq_15 hS => ?_)
          refine W.eq (g2 := F0 m 43 ls [.int (iz z_16)]) rfl ?_
          try dsimp only at hq_15
          refine ki_if_ne (tgt := 48) hx hb dX5_firstFault_43 (by decide) (by omega) (by omega) (fun c_17 => ?_) (fun c_17 => ?_)
          · skip
            refine lv_iinc (v := iz (k + 1)) (lv' := [(2, .int (iz (k + 1))), (3, .int (iz z_9)), (1, .int (iz b)), (0, .ref (o 15))]) hx hb dX5_firstFault_48 hl (k := 1) rfl (iz_add k 1) (by decide) rfl (fun ls hl => ?_)
            refine lv_goto (tgt := 70) hx hb dX5_firstFault_51 (by decide) ?_
            refine lv_iinc (v := iz ((k + 1) + 1)) (lv' := [(2, .int (iz ((k + 1) + 1))), (3, .int (iz z_9)), (1, .int (iz b)), (0, .ref (o 15))]) hx hb dX5_firstFault_70 hl (k := 0) rfl (iz_add (k + 1) 1) (by decide) rfl (fun ls hl => ?_)
            refine lv_goto (tgt := 4) hx hb dX5_firstFault_73 (by decide) ?_
            exact ih4 b ((k + 1) + 1) ⟨by omega, by omega⟩ (by omega) _ hS ls (lv_sub hl [0, 2, 3] rfl)
          · skip
            refine lv_iload_n hx hb dX5_firstFault_46 rfl (lv_at hl 1 rfl) ?_
            rw [← hQe]
            exact xp_iret (z := k) hx hb hr rfl hlocks rfl hS.2.2 dX5_firstFault_47 (by omega)
  exact lp4 _ 0 0 ⟨by omega, by omega⟩ (Nat.lt_succ_self _) _ hS ls (lv_sub hl [0, 1, 2] rfl)
set_option maxHeartbeats 4000000 in
set_option maxRecDepth 100000 in
theorem y_writeLocators (l : Launch) (dC : Nat → ClassId) (dI : Nat → Nat → Nat) (cI cB cE : ClassId) (o r n : Nat → Nat) (z : Nat → Int) (F : Nat → Int → Int) (G : Nat → Option Nat) (N : Nat) (Eo Er En : Nat → Nat → Nat) (Ez : Nat → Nat → Int) (EF : Nat → Nat → Int → Int) (sz : Nat) (hok : xOk n z F) (hxG : xG N (z 12) G Eo) (hPE : eA N En Ez EF) : Met l yX5_writeLocators [.code yX5_writeLocators cX5_writeLocators 2 none] ({ frames := 3, cells := 100, slots := 42000, locals := 68 }) (va_Pc [.ref (o 15)] (kx_Pre dC dI (xU cI cB cE o r n z F G (Eo 0 0) ++ eP cI N Eo Er En Ez EF) (xT cI cB cE) sz)) (xQ (fun _ : (Nat → Nat) × (Nat → Nat) × (Nat → Int) × (Nat → Int → Int) × (Nat → Nat → Nat) × (Nat → Nat → Nat) × (Nat → Nat → Int) × (Nat → Nat → Int → Int) => none) (fun (u : (Nat → Nat) × (Nat → Nat) × (Nat → Int) × (Nat → Int → Int) × (Nat → Nat → Nat) × (Nat → Nat → Nat) × (Nat → Nat → Int) × (Nat → Nat → Int → Int)) (dn dm : Nat) => match u with | (r', n', z', F', Er', En', Ez', EF') => xR [11, 23] [11] [] [] N z F En Ez EF n' z' F' En' Ez' EF' ∧ (dn + xg n' ≤ xg n + 0 ∧ dm + xp n' ≤ xp n + 0) ∧ (True)) (fun u t => kx_At dC dI (va_A (xU cI cB cE o r n z F G (Eo 0 0) ++ eP cI N Eo Er En Ez EF) sz) ((fun u : (Nat → Nat) × (Nat → Nat) × (Nat → Int) × (Nat → Int → Int) × (Nat → Nat → Nat) × (Nat → Nat → Nat) × (Nat → Nat → Int) × (Nat → Nat → Int → Int) => match u with | (r', n', z', F', Er', En', Ez', EF') => (xU cI cB cE o r' n' z' F' G (Eo 0 0) ++ eP cI N Eo Er' En' Ez' EF')) u) (xT cI cB cE) t) (va_A (xU cI cB cE o r n z F G (Eo 0 0) ++ eP cI N Eo Er En Ez EF) sz)) 100 42000 (va_A (xU cI cB cE o r n z F G (Eo 0 0) ++ eP cI N Eo Er En Ez EF) sz) := by
  refine Met.ofW (cc := cX5_writeLocators) (maxL := 2) (ret := none) (by decide) rfl ?_
  intro p e s m args below meth c s₁ B hml hv
  obtain ⟨rfl, hsz, hP, hK, hD0, hG, hZ⟩ := hv
  have hx := B.exec
  have hb := B.bytes
  have hr := B.returns
  have hts := kx_hts (a := ([.ref (o 15)] : List Value).toArray) hG
  have hown : s.vm.findClass RX5 = some m.cls := findClass_of_methodNamed B.named
  have hlocks := B.notSynchronized
  subst hsz
  have hD := hD0.self (sz := s.heap.size)
  generalize hAe : va_A (xU cI cB cE o r n z F G (Eo 0 0) ++ eP cI N Eo Er En Ez EF) s.heap.size = A at hD hZ ⊢
  have hA : ∀ q : Nat, s.heap.size ≤ q → A q := fun q h => by rw [← hAe]; exact Or.inr h
  have hS : va_S A s.heap s.heap [] := va_S.rf
  have hl := lv_entry ([.ref (o 15)]) (n := 2) (Nat.le_of_ble_eq_true rfl)
  rw [lg_entry_eq]
  generalize (lg_sl ([.ref (o 15)]) ++ List.replicate (2 - (lg_sl ([.ref (o 15)])).length) Slot.unset).toArray = ls at hl ⊢
  obtain ⟨hN1, hN2, hN3, hN4⟩ := hxG
  have hef : eFr [] [] En Ez EF En Ez EF := eFr.rf
  have hfr : xFr [11, 23] [11] z F z F := xFr.rf
  have hxgl := xg_le n
  have hxpl := xp_le n
  have hl : lv_has ls 2 [(0, .ref (o 15))] := hl
  generalize hQe : MQ below (xQ (fun _ : (Nat → Nat) × (Nat → Nat) × (Nat → Int) × (Nat → Int → Int) × (Nat → Nat → Nat) × (Nat → Nat → Nat) × (Nat → Nat → Int) × (Nat → Nat → Int → Int) => none) (fun (u : (Nat → Nat) × (Nat → Nat) × (Nat → Int) × (Nat → Int → Int) × (Nat → Nat → Nat) × (Nat → Nat → Nat) × (Nat → Nat → Int) × (Nat → Nat → Int → Int)) (dn dm : Nat) => match u with | (r', n', z', F', Er', En', Ez', EF') => xR [11, 23] [11] [] [] N z F En Ez EF n' z' F' En' Ez' EF' ∧ (dn + xg n' ≤ xg n + 0 ∧ dm + xp n' ≤ xp n + 0) ∧ (True)) (fun u t => kx_At dC dI A ((fun u : (Nat → Nat) × (Nat → Nat) × (Nat → Int) × (Nat → Int → Int) × (Nat → Nat → Nat) × (Nat → Nat → Nat) × (Nat → Nat → Int) × (Nat → Nat → Int → Int) => match u with | (r', n', z', F', Er', En', Ez', EF') => (xU cI cB cE o r' n' z' F' G (Eo 0 0) ++ eP cI N Eo Er' En' Ez' EF')) u) (xT cI cB cE) t) A) ([.ref (o 15)] : List Value).toArray s 100 42000 A = QQ
  have hz7 : 0 ≤ z 7 ∧ z 7 ≤ (n 7 : Int) ∧ (n 7 : Int) ≤ 1600 := hok.1 7 (by decide)
  refine lv_iconst (v := iz 0) hx hb dX5_writeLocators_0 (by decide) ?_
  refine lv_istore_n (lv' := [(1, .int (iz 0)), (0, .ref (o 15))]) hx hb dX5_writeLocators_1 rfl hl (by decide) rfl (fun ls hl => ?_)
  have lp2 : ∀ (n0 : Nat) (k : Int) (rL2 : Nat → Nat) (nL2 : Nat → Nat) (zL2 : Nat → Int) (FL2 : Nat → Int → Int) (cv : Nat) (sv : Nat), ((xR [11, 23] [11] [] [] N z F En Ez EF nL2 zL2 FL2 En Ez EF) ∧ (cv + xg nL2 ≤ xg n + (0) ∧ sv + xp nL2 ≤ xp n + (0)) ∧ (zL2 12 = z 12) ∧ (0 ≤ k ∧ k ≤ 1600)) → (z 7 - k).toNat < n0 → ∀ (H : Heap) (locs : List Loc), va_P (dC, dI) kxCl ((xU cI cB cE o rL2 nL2 zL2 FL2 G (Eo 0 0)) ++ (eP cI N Eo Er En Ez EF)) H → va_D A ((xU cI cB cE o rL2 nL2 zL2 FL2 G (Eo 0 0)) ++ (eP cI N Eo Er En Ez EF)) → va_S A s.heap H locs → ∀ ls : Array Slot, lv_has ls 2 [(1, .int (iz k)), (0, .ref (o 15))] → W p l e (headSpec [.code yX5_writeLocators cX5_writeLocators 2 none] ({ frames := 3, cells := 100, slots := 42000, locals := 68 })).room s m ([.ref (o 15)] : List Value).toArray below meth c H locs cv sv QQ (F0 m 2 ls []) := by
    intro n0
    induction n0 with
    | zero => intro k rL2 nL2 zL2 FL2 cv sv hinv hm0; exact absurd hm0 (Nat.not_lt_zero _)
    | succ n0 ih2 =>
      intro k rL2 nL2 zL2 FL2 cv sv hinv hm0 H locs hP hD hS ls hl
      obtain ⟨hRLL2, hCLL2, hZLL2, hk⟩ := hinv
      have hkzL2_7 : zL2 7 = z 7 := hRLL2.2.1.1 7 (by decide)
      refine lv_iload_n hx hb dX5_writeLocators_2 rfl (lv_at hl 0 rfl) ?_
      refine lv_aload_n hx hb dX5_writeLocators_3 rfl (lv_at hl 1 rfl) ?_
      refine va_get (D := (dC, dI)) (ci := 5) (v := .ref (o 14)) (C := RX5) (T := TX5) (N := 16) hx hb hts kt_X5 hown hK hP 0 rfl rfl 9 (by decide) (kx_word hG kq_19_xouts_0 rfl) (fun _ h9 => h9) rfl dX5_writeLocators_4 ?_
      have hxi_1 : 0 ≤ zL2 7 ∧ zL2 7 ≤ ((nL2 7 : Nat) : Int) ∧ ((nL2 7 : Nat) : Int) ≤ 1600 := hRLL2.1.1 7 (by decide)
      have hxi_2 : 0 ≤ zL2 8 ∧ zL2 8 ≤ ((nL2 8 : Nat) : Int) ∧ ((nL2 8 : Nat) : Int) ≤ 1600 := hRLL2.1.1 8 (by decide)
      have hxi_3 : 0 ≤ zL2 9 ∧ zL2 9 ≤ ((nL2 9 : Nat) : Int) ∧ ((nL2 9 : Nat) : Int) ≤ 1600 := hRLL2.1.1 9 (by decide)
      have hPc := hP.sub (ws' := (sU cI 1600 (o 14) (o 7) (o 8) (o 9) (rL2 7) (rL2 8) (rL2 9) (nL2 7) (nL2 8) (nL2 9) (zL2 7) (zL2 8) (zL2 9) (FL2 7) (FL2 8) (FL2 9))) [17, 18, 19, 20, 21, 22, 23] rfl
      refine xk_pure (va_runV (As := []) (rest := [.int (iz k)]) ⟨hx, hb, hml, hown, hts⟩ (x_ssize l dC dI cI cB cE 1600 (o 14) (o 7) (o 8) (o 9) (rL2 7) (rL2 8) (rL2 9) (nL2 7) (nL2 8) (nL2 9) (zL2 7) (zL2 8) (zL2 9) (FL2 7) (FL2 8) (FL2 9)  H.size ) (cwV 0 hts (kx_gV kq_19_xouts_3 kq_15_xspan_51 kq_15_xspan_52 kq_15_xspan_53 kq_15_xspan_54 rfl) rfl rfl rfl (by decide +kernel) ⟨Nat.le_of_ble_eq_true rfl, Nat.le_of_ble_eq_true rfl⟩) ⟨pPre_blind, va_recv hK hPc (ci := 3) (q0 := 0) rfl rfl, pPre_give hPc hK hG⟩ rfl rfl hl.1 rfl (lv_room (Nat.le_of_ble_eq_true rfl)) dX5_writeLocators_7 ⟨show cv + 0 ≤ 100 from (by omega), show sv + 0 ≤ 42000 from (by omega)⟩) hS (fun z_5 locs hq_4 hS => ?_)
      refine W.eq (g2 := F0 m 10 ls [.int (iz z_5), .int (iz k)]) rfl ?_
      try dsimp only at hq_4
      have hq_4 := hq_4.symm
      subst hq_4
      refine ki_icmp_ge (tgt := 90) hx hb dX5_writeLocators_10 (by decide) (by omega) (by omega) (by omega) (by omega) (fun c_6 => ?_) (fun c_6 => ?_)
      · skip
        rw [← hQe]
        exact xk_vret (ov := (fun _ : (Nat → Nat) × (Nat → Nat) × (Nat → Int) × (Nat → Int → Int) × (Nat → Nat → Nat) × (Nat → Nat → Nat) × (Nat → Nat → Int) × (Nat → Nat → Int → Int) => none)) (post := (fun (u : (Nat → Nat) × (Nat → Nat) × (Nat → Int) × (Nat → Int → Int) × (Nat → Nat → Nat) × (Nat → Nat → Nat) × (Nat → Nat → Int) × (Nat → Nat → Int → Int)) (dn dm : Nat) => match u with | (r', n', z', F', Er', En', Ez', EF') => xR [11, 23] [11] [] [] N z F En Ez EF n' z' F' En' Ez' EF' ∧ (dn + xg n' ≤ xg n + 0 ∧ dm + xp n' ≤ xp n + 0) ∧ (True))) (ws := (fun u : (Nat → Nat) × (Nat → Nat) × (Nat → Int) × (Nat → Int → Int) × (Nat → Nat → Nat) × (Nat → Nat → Nat) × (Nat → Nat → Int) × (Nat → Nat → Int → Int) => match u with | (r', n', z', F', Er', En', Ez', EF') => (xU cI cB cE o r' n' z' F' G (Eo 0 0) ++ eP cI N Eo Er' En' Ez' EF'))) (tys := xT cI cB cE) (rL2, nL2, zL2, FL2, Er, En, Ez, EF) hx hb hr hlocks rfl hP hD hK hS dX5_writeLocators_90 (fun dn dm hdn hdm => ⟨⟨hRLL2.1, hRLL2.2.1, hRLL2.2.2.1, hRLL2.2.2.2⟩, ⟨by omega, by omega⟩, trivial⟩) (by omega) (by omega)
      · skip
        refine lv_iload_n hx hb dX5_writeLocators_13 rfl (lv_at hl 0 rfl) ?_
        refine ki_if_le (tgt := 26) hx hb dX5_writeLocators_14 (by decide) (by omega) (by omega) (fun c_7 => ?_) (fun c_7 => ?_)
        · skip
          refine lv_aload_n hx hb dX5_writeLocators_26 rfl (lv_at hl 1 rfl) ?_
          refine va_get (D := (dC, dI)) (ci := 5) (v := .ref (o 11)) (C := RX5) (T := TX5) (N := 16) hx hb hts kt_X5 hown hK hP 0 rfl rfl 15 (by decide) (kx_word hG kq_19_xouts_60 rfl) (fun _ h9 => h9) rfl dX5_writeLocators_27 ?_
          refine lv_aload_n hx hb dX5_writeLocators_30 rfl (lv_at hl 1 rfl) ?_
          refine va_get (D := (dC, dI)) (ci := 5) (v := .ref (o 14)) (C := RX5) (T := TX5) (N := 16) hx hb hts kt_X5 hown hK hP 0 rfl rfl 9 (by decide) (kx_word hG kq_19_xouts_0 rfl) (fun _ h9 => h9) rfl dX5_writeLocators_31 ?_
          refine lv_iload_n hx hb dX5_writeLocators_34 rfl (lv_at hl 0 rfl) ?_
          have hPc := hP.sub (ws' := (sU cI 1600 (o 14) (o 7) (o 8) (o 9) (rL2 7) (rL2 8) (rL2 9) (nL2 7) (nL2 8) (nL2 9) (zL2 7) (zL2 8) (zL2 9) (FL2 7) (FL2 8) (FL2 9))) [17, 18, 19, 20, 21, 22, 23] rfl
          refine xk_pure (va_runV (As := [.int (iz k)]) (rest := [.ref (o 11)]) ⟨hx, hb, hml, hown, hts⟩ (x_sfrom l dC dI cI cB cE 1600 (o 14) (o 7) (o 8) (o 9) (rL2 7) (rL2 8) (rL2 9) (nL2 7) (nL2 8) (nL2 9) (zL2 7) (zL2 8) (zL2 9) (FL2 7) (FL2 8) (FL2 9) k H.size (by omega) (hRLL2.1.2.2.1 7) (by omega) (hRLL2.1.2.2.1 8) (by omega) (hRLL2.1.2.2.1 9) (by omega) (by omega)) (cwV 1 hts (kx_gV kq_19_xouts_8 kq_15_xspan_56 kq_15_xspan_57 kq_15_xspan_53 kq_15_xspan_58 rfl) rfl rfl rfl (by decide +kernel) ⟨Nat.le_of_ble_eq_true rfl, Nat.le_of_ble_eq_true rfl⟩) ⟨pPre_blind, va_recv hK hPc (ci := 3) (q0 := 0) rfl rfl, pPre_give hPc hK hG⟩ rfl rfl hl.1 rfl (lv_room (Nat.le_of_ble_eq_true rfl)) dX5_writeLocators_35 ⟨show cv + 0 ≤ 100 from (by omega), show sv + 0 ≤ 42000 from (by omega)⟩) hS (fun z_9 locs hq_8 hS => ?_)
          refine W.eq (g2 := F0 m 38 ls [.int (iz z_9), .ref (o 11)]) rfl ?_
          try dsimp only at hq_8
          have hxp_10 : 0 ≤ zL2 11 ∧ zL2 11 ≤ ((nL2 11 : Nat) : Int) ∧ (nL2 11 = 0 ∨ nL2 11 = 6000) := hRLL2.1.2.1 11 (by decide)
          have hxz_11 : -2147483648 ≤ zL2 23 ∧ zL2 23 < 2147483648 := hRLL2.1.2.2.2.1 23
          have hxb_12 : zL2 23 = 0 ∨ zL2 23 = 1 := hRLL2.1.2.2.2.2 23 (by decide)
          have hPc := hP.sub (ws' := (pU cB (o 11) (rL2 11) (nL2 11) (zL2 11) (zL2 23) (FL2 11))) [27, 28] rfl
          have hDc := hD.sub (ws' := (pU cB (o 11) (rL2 11) (nL2 11) (zL2 11) (zL2 23) (FL2 11))) [27, 28] (by decide) rfl
          have hFc := va_free (wc := (pU cB (o 11) (rL2 11) (nL2 11) (zL2 11) (zL2 23) (FL2 11))) hD hS hA [27, 28] rfl
          refine xk_call (va_runV (As := [.int (iz z_9)]) (rest := []) ⟨hx, hb, hml, hown, hts⟩ (x_putPage l dC dI cI cB cE (o 11) (rL2 11) (nL2 11) (zL2 11) (zL2 23) (FL2 11) z_9 H.size (by omega) (by omega) (hRLL2.1.2.2.1 11) (by omega) (by omega)) (cwV 1 hts (kx_gV kq_19_xouts_61 kq_19_xouts_62 kq_19_xouts_63 kq_15_xspan_17 kq_19_xouts_64 rfl) rfl rfl rfl (by decide +kernel) ⟨Nat.le_of_ble_eq_true rfl, Nat.le_of_ble_eq_true rfl⟩) ⟨kx_blind, va_recv hK hPc (ci := 2) (q0 := 0) rfl rfl, kx_give (ws := []) (tys := []) hPc hDc hK hG hZ hS hFc⟩ rfl rfl hl.1 rfl (lv_room (Nat.le_of_ble_eq_true rfl)) dX5_writeLocators_38 ⟨show cv + 0 ≤ 100 from (by omega), show sv + 0 ≤ 42000 from (by omega)⟩) hS (fun q _ h => hFc q h) hFc (fun u dn_14 dm_15 t H locs ht hvm hq_13 hB hk1 hS => ?_)
          obtain ⟨z_16, tl_17, F_18⟩ := u
          obtain ⟨hP1, hK1, hD1⟩ := hB
          rw [ht] at hP1
          obtain ⟨hP, hD⟩ := xj_pool (wr := [(o 15, .inr (5, [.ref (o 16), .ref (Eo 0 0), .int (iz (zL2 12)), .int (iz (zL2 13)), .int (iz (zL2 14)), .ref (o 0), .ref (o 1), .int (iz (zL2 15)), .ref (o 13), .ref (o 14), .int (iz (zL2 16)), .ref (o 2), .ref (o 12), .ref (o 3), .ref (o 10), .ref (o 11)])), (o 16, .inl (cE, 80, .inr (.inr (.inr (.inr G))))), (o 0, .inr (1, [.int (iz 80), .ref (rL2 0), .int (iz (zL2 0))])), (rL2 0, .inl (cI, nL2 0, .inl (iA (FL2 0)))), (o 1, .inr (1, [.int (iz 80), .ref (rL2 1), .int (iz (zL2 1))])), (rL2 1, .inl (cI, nL2 1, .inl (iA (FL2 1)))), (o 2, .inr (1, [.int (iz 80), .ref (rL2 2), .int (iz (zL2 2))])), (rL2 2, .inl (cI, nL2 2, .inl (iA (FL2 2)))), (o 3, .inr (1, [.int (iz 80), .ref (rL2 3), .int (iz (zL2 3))])), (rL2 3, .inl (cI, nL2 3, .inl (iA (FL2 3)))), (o 13, .inr (3, [.ref (o 4), .ref (o 5), .ref (o 6)])), (o 4, .inr (1, [.int (iz 1600), .ref (rL2 4), .int (iz (zL2 4))])), (rL2 4, .inl (cI, nL2 4, .inl (iA (FL2 4)))), (o 5, .inr (1, [.int (iz 1600), .ref (rL2 5), .int (iz (zL2 5))])), (rL2 5, .inl (cI, nL2 5, .inl (iA (FL2 5)))), (o 6, .inr (1, [.int (iz 1600), .ref (rL2 6), .int (iz (zL2 6))])), (rL2 6, .inl (cI, nL2 6, .inl (iA (FL2 6)))), (o 14, .inr (3, [.ref (o 7), .ref (o 8), .ref (o 9)])), (o 7, .inr (1, [.int (iz 1600), .ref (rL2 7), .int (iz (zL2 7))])), (rL2 7, .inl (cI, nL2 7, .inl (iA (FL2 7)))), (o 8, .inr (1, [.int (iz 1600), .ref (rL2 8), .int (iz (zL2 8))])), (rL2 8, .inl (cI, nL2 8, .inl (iA (FL2 8)))), (o 9, .inr (1, [.int (iz 1600), .ref (rL2 9), .int (iz (zL2 9))])), (rL2 9, .inl (cI, nL2 9, .inl (iA (FL2 9)))), (o 12, .inr (4, [.int (iz (zL2 17)), .int (iz (zL2 18)), .int (iz (zL2 19)), .int (iz (zL2 20)), .int (iz (zL2 21))])), (o 10, .inr (2, [.ref (rL2 10), .int (iz (zL2 10)), .int (iz (zL2 22))])), (rL2 10, .inl (cB, nL2 10, .inl (iA (FL2 10))))]) (w1 := (pU cB (o 11) (rL2 11) (nL2 11) z_16 tl_17 F_18)) (ws' := (xU cI cB cE o rL2 nL2 (va_up (va_up zL2 11 z_16) 23 tl_17) (va_up FL2 11 F_18) G (Eo 0 0))) hP hD [27, 28] [0, 1, 2, 3, 4, 5, 6, 7, 8, 9, 10, 11, 12, 13, 14, 15, 16, 17, 18, 19, 20, 21, 22, 23, 24, 25, 26] [0, 1, 2, 3, 4, 5, 6, 7, 8, 9, 10, 11, 12, 13, 14, 15, 16, 17, 18, 19, 20, 21, 22, 23, 24, 25, 26, 27, 28] rfl rfl (by decide) (by decide) hk1 hFc hP1 hD1 rfl (by decide)
          refine W.eq (g2 := F0 m 41 ls []) rfl ?_
          try dsimp only at hq_13
          obtain ⟨hd19, hm19, hz19, ht19, hF19⟩ := hq_13
          subst hd19
          subst hm19
          refine lv_aload_n hx hb dX5_writeLocators_41 rfl (lv_at hl 1 rfl) ?_
          refine va_get (D := (dC, dI)) (ci := 5) (v := .ref (o 14)) (C := RX5) (T := TX5) (N := 16) hx hb hts kt_X5 hown hK hP 0 rfl rfl 9 (by decide) (kx_word hG kq_19_xouts_0 rfl) (fun _ h9 => h9) rfl dX5_writeLocators_42 ?_
          refine lv_iload_n hx hb dX5_writeLocators_45 rfl (lv_at hl 0 rfl) ?_
          have hPc := hP.sub (ws' := (sU cI 1600 (o 14) (o 7) (o 8) (o 9) (rL2 7) (rL2 8) (rL2 9) (nL2 7) (nL2 8) (nL2 9) (zL2 7) (zL2 8) (zL2 9) (FL2 7) (FL2 8) (FL2 9))) [17, 18, 19, 20, 21, 22, 23] rfl
          refine xk_pure (va_runV (As := [.int (iz k)]) (rest := []) ⟨hx, hb, hml, hown, hts⟩ (x_sto l dC dI cI cB cE 1600 (o 14) (o 7) (o 8) (o 9) (rL2 7) (rL2 8) (rL2 9) (nL2 7) (nL2 8) (nL2 9) (zL2 7) (zL2 8) (zL2 9) (FL2 7) (FL2 8) (FL2 9) k H.size (by omega) (hRLL2.1.2.2.1 7) (by omega) (hRLL2.1.2.2.1 8) (by omega) (hRLL2.1.2.2.1 9) (by omega) (by omega)) (cwV 1 hts (kx_gV kq_19_xouts_9 kq_15_xspan_64 kq_15_xspan_65 kq_15_xspan_53 kq_15_xspan_66 rfl) rfl rfl rfl (by decide +kernel) ⟨Nat.le_of_ble_eq_true rfl, Nat.le_of_ble_eq_true rfl⟩) ⟨pPre_blind, va_recv hK hPc (ci := 3) (q0 := 0) rfl rfl, pPre_give hPc hK hG⟩ rfl rfl hl.1 rfl (lv_room (Nat.le_of_ble_eq_true rfl)) dX5_writeLocators_46 ⟨show (cv + 0) + 0 ≤ 100 from (by omega), show (sv + 0) + 0 ≤ 42000 from (by omega)⟩) hS (fun z_21 locs hq_20 hS => ?_)
          refine W.eq (g2 := F0 m 49 ls [.int (iz z_21)]) rfl ?_
          try dsimp only at hq_20
          refine lv_aload_n hx hb dX5_writeLocators_49 rfl (lv_at hl 1 rfl) ?_
          refine va_get (D := (dC, dI)) (ci := 5) (v := .ref (o 14)) (C := RX5) (T := TX5) (N := 16) hx hb hts kt_X5 hown hK hP 0 rfl rfl 9 (by decide) (kx_word hG kq_19_xouts_0 rfl) (fun _ h9 => h9) rfl dX5_writeLocators_50 ?_
          refine lv_iload_n hx hb dX5_writeLocators_53 rfl (lv_at hl 0 rfl) ?_
          have hPc := hP.sub (ws' := (sU cI 1600 (o 14) (o 7) (o 8) (o 9) (rL2 7) (rL2 8) (rL2 9) (nL2 7) (nL2 8) (nL2 9) (zL2 7) (zL2 8) (zL2 9) (FL2 7) (FL2 8) (FL2 9))) [17, 18, 19, 20, 21, 22, 23] rfl
          refine xk_pure (va_runV (As := [.int (iz k)]) (rest := [.int (iz z_21)]) ⟨hx, hb, hml, hown, hts⟩ (x_sfrom l dC dI cI cB cE 1600 (o 14) (o 7) (o 8) (o 9) (rL2 7) (rL2 8) (rL2 9) (nL2 7) (nL2 8) (nL2 9) (zL2 7) (zL2 8) (zL2 9) (FL2 7) (FL2 8) (FL2 9) k H.size (by omega) (hRLL2.1.2.2.1 7) (by omega) (hRLL2.1.2.2.1 8) (by omega) (hRLL2.1.2.2.1 9) (by omega) (by omega)) (cwV 1 hts (kx_gV kq_19_xouts_8 kq_15_xspan_56 kq_15_xspan_57 kq_15_xspan_53 kq_15_xspan_58 rfl) rfl rfl rfl (by decide +kernel) ⟨Nat.le_of_ble_eq_true rfl, Nat.le_of_ble_eq_true rfl⟩) ⟨pPre_blind, va_recv hK hPc (ci := 3) (q0 := 0) rfl rfl, pPre_give hPc hK hG⟩ rfl rfl hl.1 rfl (lv_room (Nat.le_of_ble_eq_true rfl)) dX5_writeLocators_54 ⟨show (cv + 0) + 0 ≤ 100 from (by omega), show (sv + 0) + 0 ≤ 42000 from (by omega)⟩) hS (fun z_23 locs hq_22 hS => ?_)
          refine W.eq (g2 := F0 m 57 ls [.int (iz z_23), .int (iz z_21)]) rfl ?_
          try dsimp only at hq_22
          refine ki_icmp_eq (tgt := 84) hx hb dX5_writeLocators_57 (by decide) (by omega) (by omega) (by omega) (by omega) (fun c_24 => ?_) (fun c_24 => ?_)
          · skip
            refine lv_iinc (v := iz (k + 1)) (lv' := [(1, .int (iz (k + 1))), (0, .ref (o 15))]) hx hb dX5_writeLocators_84 hl (k := 0) rfl (iz_add k 1) (by decide) rfl (fun ls hl => ?_)
            refine lv_goto (tgt := 2) hx hb dX5_writeLocators_87 (by decide) ?_
            have hok25 : xOk (va_up nL2 11 (nL2 11)) (va_up (va_up zL2 11 z_16) 23 tl_17) (va_up FL2 11 F_18) := ((hRLL2.1.p 11 (by decide) (show 0 ≤ z_16 ∧ z_16 ≤ ((nL2 11 : Nat) : Int) ∧ (nL2 11 = 0 ∨ nL2 11 = 6000) by omega) hF19).s 23 (by decide) (show -2147483648 ≤ tl_17 ∧ tl_17 < 2147483648 by omega) (by omega))
            have hfr25 : xFr [11, 23] [11] z F (va_up (va_up zL2 11 z_16) 23 tl_17) (va_up FL2 11 F_18) := (((hRLL2.2.1.uz 11 (by decide) _).uz 23 (by decide) _).uf 11 (by decide) _)
            have hcg25 : (0) + xg (va_up nL2 11 (nL2 11)) ≤ xg nL2 := by unfold xg; simp (decide := true) only [va_ev, ↓reduceIte]; omega
            have hcp25 : (0) + xp (va_up nL2 11 (nL2 11)) ≤ xp nL2 := by unfold xp; simp (decide := true) only [va_ev, ↓reduceIte]; omega
            exact ih2 (k + 1) rL2 (va_up nL2 11 (nL2 11)) (va_up (va_up zL2 11 z_16) 23 tl_17) (va_up FL2 11 F_18) (cv + 0) (sv + 0) ⟨⟨hok25, hfr25, hRLL2.2.2.1, hRLL2.2.2.2⟩, ⟨by omega, by omega⟩, (show zL2 12 = z 12 by omega), by omega⟩ (by omega) _ _ hP hD hS ls (lv_sub hl [0, 1] rfl)
          · skip
            refine lv_aload_n hx hb dX5_writeLocators_60 rfl (lv_at hl 1 rfl) ?_
            refine va_get (D := (dC, dI)) (ci := 5) (v := .ref (o 11)) (C := RX5) (T := TX5) (N := 16) hx hb hts kt_X5 hown hK hP 0 rfl rfl 15 (by decide) (kx_word hG kq_19_xouts_60 rfl) (fun _ h9 => h9) rfl dX5_writeLocators_61 ?_
            refine lv_bipush (v := iz 45) hx hb dX5_writeLocators_64 (by decide) ?_
            have hPc := hP.sub (ws' := (pU cB (o 11) (rL2 11) (nL2 11) z_16 tl_17 F_18)) [27, 28] rfl
            have hDc := hD.sub (ws' := (pU cB (o 11) (rL2 11) (nL2 11) z_16 tl_17 F_18)) [27, 28] (by decide) rfl
            have hFc := va_free (wc := (pU cB (o 11) (rL2 11) (nL2 11) z_16 tl_17 F_18)) hD hS hA [27, 28] rfl
            refine xk_call (va_runV (As := [.int (iz 45)]) (rest := []) ⟨hx, hb, hml, hown, hts⟩ (x_put l dC dI cI cB cE (o 11) (rL2 11) (nL2 11) z_16 tl_17 F_18 45 H.size (by omega) (by omega) hF19 (by omega) (by omega)) (cwV 1 hts (kx_gV kq_19_xouts_65 kq_15_xspan_15 kq_15_xspan_16 kq_15_xspan_17 kq_15_xspan_18 rfl) rfl rfl rfl (by decide +kernel) ⟨Nat.le_of_ble_eq_true rfl, Nat.le_of_ble_eq_true rfl⟩) ⟨kx_blind, va_recv hK hPc (ci := 2) (q0 := 0) rfl rfl, kx_give (ws := []) (tys := []) hPc hDc hK hG hZ hS hFc⟩ rfl rfl hl.1 rfl (lv_room (Nat.le_of_ble_eq_true rfl)) dX5_writeLocators_66 ⟨show (cv + 0) + 0 ≤ 100 from (by omega), show (sv + 0) + 0 ≤ 42000 from (by omega)⟩) hS (fun q _ h => hFc q h) hFc (fun u dn_27 dm_28 t H locs ht hvm hq_26 hB hk1 hS => ?_)
            obtain ⟨z_29, tl_30, F_31⟩ := u
            obtain ⟨hP1, hK1, hD1⟩ := hB
            rw [ht] at hP1
            obtain ⟨hP, hD⟩ := xj_pool (wr := [(o 15, .inr (5, [.ref (o 16), .ref (Eo 0 0), .int (iz (zL2 12)), .int (iz (zL2 13)), .int (iz (zL2 14)), .ref (o 0), .ref (o 1), .int (iz (zL2 15)), .ref (o 13), .ref (o 14), .int (iz (zL2 16)), .ref (o 2), .ref (o 12), .ref (o 3), .ref (o 10), .ref (o 11)])), (o 16, .inl (cE, 80, .inr (.inr (.inr (.inr G))))), (o 0, .inr (1, [.int (iz 80), .ref (rL2 0), .int (iz (zL2 0))])), (rL2 0, .inl (cI, nL2 0, .inl (iA (FL2 0)))), (o 1, .inr (1, [.int (iz 80), .ref (rL2 1), .int (iz (zL2 1))])), (rL2 1, .inl (cI, nL2 1, .inl (iA (FL2 1)))), (o 2, .inr (1, [.int (iz 80), .ref (rL2 2), .int (iz (zL2 2))])), (rL2 2, .inl (cI, nL2 2, .inl (iA (FL2 2)))), (o 3, .inr (1, [.int (iz 80), .ref (rL2 3), .int (iz (zL2 3))])), (rL2 3, .inl (cI, nL2 3, .inl (iA (FL2 3)))), (o 13, .inr (3, [.ref (o 4), .ref (o 5), .ref (o 6)])), (o 4, .inr (1, [.int (iz 1600), .ref (rL2 4), .int (iz (zL2 4))])), (rL2 4, .inl (cI, nL2 4, .inl (iA (FL2 4)))), (o 5, .inr (1, [.int (iz 1600), .ref (rL2 5), .int (iz (zL2 5))])), (rL2 5, .inl (cI, nL2 5, .inl (iA (FL2 5)))), (o 6, .inr (1, [.int (iz 1600), .ref (rL2 6), .int (iz (zL2 6))])), (rL2 6, .inl (cI, nL2 6, .inl (iA (FL2 6)))), (o 14, .inr (3, [.ref (o 7), .ref (o 8), .ref (o 9)])), (o 7, .inr (1, [.int (iz 1600), .ref (rL2 7), .int (iz (zL2 7))])), (rL2 7, .inl (cI, nL2 7, .inl (iA (FL2 7)))), (o 8, .inr (1, [.int (iz 1600), .ref (rL2 8), .int (iz (zL2 8))])), (rL2 8, .inl (cI, nL2 8, .inl (iA (FL2 8)))), (o 9, .inr (1, [.int (iz 1600), .ref (rL2 9), .int (iz (zL2 9))])), (rL2 9, .inl (cI, nL2 9, .inl (iA (FL2 9)))), (o 12, .inr (4, [.int (iz (zL2 17)), .int (iz (zL2 18)), .int (iz (zL2 19)), .int (iz (zL2 20)), .int (iz (zL2 21))])), (o 10, .inr (2, [.ref (rL2 10), .int (iz (zL2 10)), .int (iz (zL2 22))])), (rL2 10, .inl (cB, nL2 10, .inl (iA (FL2 10))))]) (w1 := (pU cB (o 11) (rL2 11) (nL2 11) z_29 tl_30 F_31)) (ws' := (xU cI cB cE o rL2 nL2 (va_up (va_up zL2 11 z_29) 23 tl_30) (va_up FL2 11 F_31) G (Eo 0 0))) hP hD [27, 28] [0, 1, 2, 3, 4, 5, 6, 7, 8, 9, 10, 11, 12, 13, 14, 15, 16, 17, 18, 19, 20, 21, 22, 23, 24, 25, 26] [0, 1, 2, 3, 4, 5, 6, 7, 8, 9, 10, 11, 12, 13, 14, 15, 16, 17, 18, 19, 20, 21, 22, 23, 24, 25, 26, 27, 28] rfl rfl (by decide) (by decide) hk1 hFc hP1 hD1 rfl (by decide)
            refine W.eq (g2 := F0 m 69 ls []) rfl ?_
            try dsimp only at hq_26
            obtain ⟨hd32, hm32, hz32, ht32, hF32⟩ := hq_26
            subst hd32
            subst hm32
            refine lv_aload_n hx hb dX5_writeLocators_69 rfl (lv_at hl 1 rfl) ?_
            refine va_get (D := (dC, dI)) (ci := 5) (v := .ref (o 11)) (C := RX5) (T := TX5) (N := 16) hx hb hts kt_X5 hown hK hP 0 rfl rfl 15 (by decide) (kx_word hG kq_19_xouts_60 rfl) (fun _ h9 => h9) rfl dX5_writeLocators_70 ?_
            refine lv_aload_n hx hb dX5_writeLocators_73 rfl (lv_at hl 1 rfl) ?_
            refine va_get (D := (dC, dI)) (ci := 5) (v := .ref (o 14)) (C := RX5) (T := TX5) (N := 16) hx hb hts kt_X5 hown hK hP 0 rfl rfl 9 (by decide) (kx_word hG kq_19_xouts_0 rfl) (fun _ h9 => h9) rfl dX5_writeLocators_74 ?_
            refine lv_iload_n hx hb dX5_writeLocators_77 rfl (lv_at hl 0 rfl) ?_
            have hPc := hP.sub (ws' := (sU cI 1600 (o 14) (o 7) (o 8) (o 9) (rL2 7) (rL2 8) (rL2 9) (nL2 7) (nL2 8) (nL2 9) (zL2 7) (zL2 8) (zL2 9) (FL2 7) (FL2 8) (FL2 9))) [17, 18, 19, 20, 21, 22, 23] rfl
            refine xk_pure (va_runV (As := [.int (iz k)]) (rest := [.ref (o 11)]) ⟨hx, hb, hml, hown, hts⟩ (x_sto l dC dI cI cB cE 1600 (o 14) (o 7) (o 8) (o 9) (rL2 7) (rL2 8) (rL2 9) (nL2 7) (nL2 8) (nL2 9) (zL2 7) (zL2 8) (zL2 9) (FL2 7) (FL2 8) (FL2 9) k H.size (by omega) (hRLL2.1.2.2.1 7) (by omega) (hRLL2.1.2.2.1 8) (by omega) (hRLL2.1.2.2.1 9) (by omega) (by omega)) (cwV 1 hts (kx_gV kq_19_xouts_9 kq_15_xspan_64 kq_15_xspan_65 kq_15_xspan_53 kq_15_xspan_66 rfl) rfl rfl rfl (by decide +kernel) ⟨Nat.le_of_ble_eq_true rfl, Nat.le_of_ble_eq_true rfl⟩) ⟨pPre_blind, va_recv hK hPc (ci := 3) (q0 := 0) rfl rfl, pPre_give hPc hK hG⟩ rfl rfl hl.1 rfl (lv_room (Nat.le_of_ble_eq_true rfl)) dX5_writeLocators_78 ⟨show ((cv + 0) + 0) + 0 ≤ 100 from (by omega), show ((sv + 0) + 0) + 0 ≤ 42000 from (by omega)⟩) hS (fun z_34 locs hq_33 hS => ?_)
            refine W.eq (g2 := F0 m 81 ls [.int (iz z_34), .ref (o 11)]) rfl ?_
            try dsimp only at hq_33
            have hPc := hP.sub (ws' := (pU cB (o 11) (rL2 11) (nL2 11) z_29 tl_30 F_31)) [27, 28] rfl
            have hDc := hD.sub (ws' := (pU cB (o 11) (rL2 11) (nL2 11) z_29 tl_30 F_31)) [27, 28] (by decide) rfl
            have hFc := va_free (wc := (pU cB (o 11) (rL2 11) (nL2 11) z_29 tl_30 F_31)) hD hS hA [27, 28] rfl
            refine xk_call (va_runV (As := [.int (iz z_34)]) (rest := []) ⟨hx, hb, hml, hown, hts⟩ (x_putPage l dC dI cI cB cE (o 11) (rL2 11) (nL2 11) z_29 tl_30 F_31 z_34 H.size (by omega) (by omega) hF32 (by omega) (by omega)) (cwV 1 hts (kx_gV kq_19_xouts_61 kq_19_xouts_62 kq_19_xouts_63 kq_15_xspan_17 kq_19_xouts_64 rfl) rfl rfl rfl (by decide +kernel) ⟨Nat.le_of_ble_eq_true rfl, Nat.le_of_ble_eq_true rfl⟩) ⟨kx_blind, va_recv hK hPc (ci := 2) (q0 := 0) rfl rfl, kx_give (ws := []) (tys := []) hPc hDc hK hG hZ hS hFc⟩ rfl rfl hl.1 rfl (lv_room (Nat.le_of_ble_eq_true rfl)) dX5_writeLocators_81 ⟨show ((cv + 0) + 0) + 0 ≤ 100 from (by omega), show ((sv + 0) + 0) + 0 ≤ 42000 from (by omega)⟩) hS (fun q _ h => hFc q h) hFc (fun u dn_36 dm_37 t H locs ht hvm hq_35 hB hk1 hS => ?_)
            obtain ⟨z_38, tl_39, F_40⟩ := u
            obtain ⟨hP1, hK1, hD1⟩ := hB
            rw [ht] at hP1
            obtain ⟨hP, hD⟩ := xj_pool (wr := [(o 15, .inr (5, [.ref (o 16), .ref (Eo 0 0), .int (iz (zL2 12)), .int (iz (zL2 13)), .int (iz (zL2 14)), .ref (o 0), .ref (o 1), .int (iz (zL2 15)), .ref (o 13), .ref (o 14), .int (iz (zL2 16)), .ref (o 2), .ref (o 12), .ref (o 3), .ref (o 10), .ref (o 11)])), (o 16, .inl (cE, 80, .inr (.inr (.inr (.inr G))))), (o 0, .inr (1, [.int (iz 80), .ref (rL2 0), .int (iz (zL2 0))])), (rL2 0, .inl (cI, nL2 0, .inl (iA (FL2 0)))), (o 1, .inr (1, [.int (iz 80), .ref (rL2 1), .int (iz (zL2 1))])), (rL2 1, .inl (cI, nL2 1, .inl (iA (FL2 1)))), (o 2, .inr (1, [.int (iz 80), .ref (rL2 2), .int (iz (zL2 2))])), (rL2 2, .inl (cI, nL2 2, .inl (iA (FL2 2)))), (o 3, .inr (1, [.int (iz 80), .ref (rL2 3), .int (iz (zL2 3))])), (rL2 3, .inl (cI, nL2 3, .inl (iA (FL2 3)))), (o 13, .inr (3, [.ref (o 4), .ref (o 5), .ref (o 6)])), (o 4, .inr (1, [.int (iz 1600), .ref (rL2 4), .int (iz (zL2 4))])), (rL2 4, .inl (cI, nL2 4, .inl (iA (FL2 4)))), (o 5, .inr (1, [.int (iz 1600), .ref (rL2 5), .int (iz (zL2 5))])), (rL2 5, .inl (cI, nL2 5, .inl (iA (FL2 5)))), (o 6, .inr (1, [.int (iz 1600), .ref (rL2 6), .int (iz (zL2 6))])), (rL2 6, .inl (cI, nL2 6, .inl (iA (FL2 6)))), (o 14, .inr (3, [.ref (o 7), .ref (o 8), .ref (o 9)])), (o 7, .inr (1, [.int (iz 1600), .ref (rL2 7), .int (iz (zL2 7))])), (rL2 7, .inl (cI, nL2 7, .inl (iA (FL2 7)))), (o 8, .inr (1, [.int (iz 1600), .ref (rL2 8), .int (iz (zL2 8))])), (rL2 8, .inl (cI, nL2 8, .inl (iA (FL2 8)))), (o 9, .inr (1, [.int (iz 1600), .ref (rL2 9), .int (iz (zL2 9))])), (rL2 9, .inl (cI, nL2 9, .inl (iA (FL2 9)))), (o 12, .inr (4, [.int (iz (zL2 17)), .int (iz (zL2 18)), .int (iz (zL2 19)), .int (iz (zL2 20)), .int (iz (zL2 21))])), (o 10, .inr (2, [.ref (rL2 10), .int (iz (zL2 10)), .int (iz (zL2 22))])), (rL2 10, .inl (cB, nL2 10, .inl (iA (FL2 10))))]) (w1 := (pU cB (o 11) (rL2 11) (nL2 11) z_38 tl_39 F_40)) (ws' := (xU cI cB cE o rL2 nL2 (va_up (va_up zL2 11 z_38) 23 tl_39) (va_up FL2 11 F_40) G (Eo 0 0))) hP hD [27, 28] [0, 1, 2, 3, 4, 5, 6, 7, 8, 9, 10, 11, 12, 13, 14, 15, 16, 17, 18, 19, 20, 21, 22, 23, 24, 25, 26] [0, 1, 2, 3, 4, 5, 6, 7, 8, 9, 10, 11, 12, 13, 14, 15, 16, 17, 18, 19, 20, 21, 22, 23, 24, 25, 26, 27, 28] rfl rfl (by decide) (by decide) hk1 hFc hP1 hD1 rfl (by decide)
            refine W.eq (g2 := F0 m 84 ls []) rfl ?_
            try dsimp only at hq_35
            obtain ⟨hd41, hm41, hz41, ht41, hF41⟩ := hq_35
            subst hd41
            subst hm41
            refine lv_iinc (v := iz (k + 1)) (lv' := [(1, .int (iz (k + 1))), (0, .ref (o 15))]) hx hb dX5_writeLocators_84 hl (k := 0) rfl (iz_add k 1) (by decide) rfl (fun ls hl => ?_)
            refine lv_goto (tgt := 2) hx hb dX5_writeLocators_87 (by decide) ?_
            have hok42 : xOk (va_up nL2 11 (nL2 11)) (va_up (va_up zL2 11 z_38) 23 tl_39) (va_up FL2 11 F_40) := ((hRLL2.1.p 11 (by decide) (show 0 ≤ z_38 ∧ z_38 ≤ ((nL2 11 : Nat) : Int) ∧ (nL2 11 = 0 ∨ nL2 11 = 6000) by omega) hF41).s 23 (by decide) (show -2147483648 ≤ tl_39 ∧ tl_39 < 2147483648 by omega) (by omega))
            have hfr42 : xFr [11, 23] [11] z F (va_up (va_up zL2 11 z_38) 23 tl_39) (va_up FL2 11 F_40) := (((hRLL2.2.1.uz 11 (by decide) _).uz 23 (by decide) _).uf 11 (by decide) _)
            have hcg42 : (0) + xg (va_up nL2 11 (nL2 11)) ≤ xg nL2 := by unfold xg; simp (decide := true) only [va_ev, ↓reduceIte]; omega
            have hcp42 : (0) + xp (va_up nL2 11 (nL2 11)) ≤ xp nL2 := by unfold xp; simp (decide := true) only [va_ev, ↓reduceIte]; omega
            exact ih2 (k + 1) rL2 (va_up nL2 11 (nL2 11)) (va_up (va_up zL2 11 z_38) 23 tl_39) (va_up FL2 11 F_40) (((cv + 0) + 0) + 0) (((sv + 0) + 0) + 0) ⟨⟨hok42, hfr42, hRLL2.2.2.1, hRLL2.2.2.2⟩, ⟨by omega, by omega⟩, (show zL2 12 = z 12 by omega), by omega⟩ (by omega) _ _ hP hD hS ls (lv_sub hl [0, 1] rfl)
        · skip
          refine lv_aload_n hx hb dX5_writeLocators_17 rfl (lv_at hl 1 rfl) ?_
          refine va_get (D := (dC, dI)) (ci := 5) (v := .ref (o 11)) (C := RX5) (T := TX5) (N := 16) hx hb hts kt_X5 hown hK hP 0 rfl rfl 15 (by decide) (kx_word hG kq_19_xouts_60 rfl) (fun _ h9 => h9) rfl dX5_writeLocators_18 ?_
          refine lv_bipush (v := iz 44) hx hb dX5_writeLocators_21 (by decide) ?_
          have hxp_43 : 0 ≤ zL2 11 ∧ zL2 11 ≤ ((nL2 11 : Nat) : Int) ∧ (nL2 11 = 0 ∨ nL2 11 = 6000) := hRLL2.1.2.1 11 (by decide)
          have hxz_44 : -2147483648 ≤ zL2 23 ∧ zL2 23 < 2147483648 := hRLL2.1.2.2.2.1 23
          have hxb_45 : zL2 23 = 0 ∨ zL2 23 = 1 := hRLL2.1.2.2.2.2 23 (by decide)
          have hPc := hP.sub (ws' := (pU cB (o 11) (rL2 11) (nL2 11) (zL2 11) (zL2 23) (FL2 11))) [27, 28] rfl
          have hDc := hD.sub (ws' := (pU cB (o 11) (rL2 11) (nL2 11) (zL2 11) (zL2 23) (FL2 11))) [27, 28] (by decide) rfl
          have hFc := va_free (wc := (pU cB (o 11) (rL2 11) (nL2 11) (zL2 11) (zL2 23) (FL2 11))) hD hS hA [27, 28] rfl
          refine xk_call (va_runV (As := [.int (iz 44)]) (rest := []) ⟨hx, hb, hml, hown, hts⟩ (x_putBetween l dC dI cI cB cE (o 11) (rL2 11) (nL2 11) (zL2 11) (zL2 23) (FL2 11) 44 H.size (by omega) (by omega) (hRLL2.1.2.2.1 11) (by omega) (by omega)) (cwV 1 hts (kx_gV kq_19_xouts_66 kq_19_xouts_67 kq_19_xouts_68 kq_15_xspan_17 kq_19_xouts_69 rfl) rfl rfl rfl (by decide +kernel) ⟨Nat.le_of_ble_eq_true rfl, Nat.le_of_ble_eq_true rfl⟩) ⟨kx_blind, va_recv hK hPc (ci := 2) (q0 := 0) rfl rfl, kx_give (ws := []) (tys := []) hPc hDc hK hG hZ hS hFc⟩ rfl rfl hl.1 rfl (lv_room (Nat.le_of_ble_eq_true rfl)) dX5_writeLocators_23 ⟨show cv + 0 ≤ 100 from (by omega), show sv + 0 ≤ 42000 from (by omega)⟩) hS (fun q _ h => hFc q h) hFc (fun u dn_47 dm_48 t H locs ht hvm hq_46 hB hk1 hS => ?_)
          obtain ⟨z_49, tl_50, F_51⟩ := u
          obtain ⟨hP1, hK1, hD1⟩ := hB
          rw [ht] at hP1
          obtain ⟨hP, hD⟩ := xj_pool (wr := [(o 15, .inr (5, [.ref (o 16), .ref (Eo 0 0), .int (iz (zL2 12)), .int (iz (zL2 13)), .int (iz (zL2 14)), .ref (o 0), .ref (o 1), .int (iz (zL2 15)), .ref (o 13), .ref (o 14), .int (iz (zL2 16)), .ref (o 2), .ref (o 12), .ref (o 3), .ref (o 10), .ref (o 11)])), (o 16, .inl (cE, 80, .inr (.inr (.inr (.inr G))))), (o 0, .inr (1, [.int (iz 80), .ref (rL2 0), .int (iz (zL2 0))])), (rL2 0, .inl (cI, nL2 0, .inl (iA (FL2 0)))), (o 1, .inr (1, [.int (iz 80), .ref (rL2 1), .int (iz (zL2 1))])), (rL2 1, .inl (cI, nL2 1, .inl (iA (FL2 1)))), (o 2, .inr (1, [.int (iz 80), .ref (rL2 2), .int (iz (zL2 2))])), (rL2 2, .inl (cI, nL2 2, .inl (iA (FL2 2)))), (o 3, .inr (1, [.int (iz 80), .ref (rL2 3), .int (iz (zL2 3))])), (rL2 3, .inl (cI, nL2 3, .inl (iA (FL2 3)))), (o 13, .inr (3, [.ref (o 4), .ref (o 5), .ref (o 6)])), (o 4, .inr (1, [.int (iz 1600), .ref (rL2 4), .int (iz (zL2 4))])), (rL2 4, .inl (cI, nL2 4, .inl (iA (FL2 4)))), (o 5, .inr (1, [.int (iz 1600), .ref (rL2 5), .int (iz (zL2 5))])), (rL2 5, .inl (cI, nL2 5, .inl (iA (FL2 5)))), (o 6, .inr (1, [.int (iz 1600), .ref (rL2 6), .int (iz (zL2 6))])), (rL2 6, .inl (cI, nL2 6, .inl (iA (FL2 6)))), (o 14, .inr (3, [.ref (o 7), .ref (o 8), .ref (o 9)])), (o 7, .inr (1, [.int (iz 1600), .ref (rL2 7), .int (iz (zL2 7))])), (rL2 7, .inl (cI, nL2 7, .inl (iA (FL2 7)))), (o 8, .inr (1, [.int (iz 1600), .ref (rL2 8), .int (iz (zL2 8))])), (rL2 8, .inl (cI, nL2 8, .inl (iA (FL2 8)))), (o 9, .inr (1, [.int (iz 1600), .ref (rL2 9), .int (iz (zL2 9))])), (rL2 9, .inl (cI, nL2 9, .inl (iA (FL2 9)))), (o 12, .inr (4, [.int (iz (zL2 17)), .int (iz (zL2 18)), .int (iz (zL2 19)), .int (iz (zL2 20)), .int (iz (zL2 21))])), (o 10, .inr (2, [.ref (rL2 10), .int (iz (zL2 10)), .int (iz (zL2 22))])), (rL2 10, .inl (cB, nL2 10, .inl (iA (FL2 10))))]) (w1 := (pU cB (o 11) (rL2 11) (nL2 11) z_49 tl_50 F_51)) (ws' := (xU cI cB cE o rL2 nL2 (va_up (va_up zL2 11 z_49) 23 tl_50) (va_up FL2 11 F_51) G (Eo 0 0))) hP hD [27, 28] [0, 1, 2, 3, 4, 5, 6, 7, 8, 9, 10, 11, 12, 13, 14, 15, 16, 17, 18, 19, 20, 21, 22, 23, 24, 25, 26] [0, 1, 2, 3, 4, 5, 6, 7, 8, 9, 10, 11, 12, 13, 14, 15, 16, 17, 18, 19, 20, 21, 22, 23, 24, 25, 26, 27, 28] rfl rfl (by decide) (by decide) hk1 hFc hP1 hD1 rfl (by decide)
          refine W.eq (g2 := F0 m 26 ls []) rfl ?_
          try dsimp only at hq_46
          obtain ⟨hd52, hm52, hz52, ht52, hF52⟩ := hq_46
          subst hd52
          subst hm52
          refine lv_aload_n hx hb dX5_writeLocators_26 rfl (lv_at hl 1 rfl) ?_
          refine va_get (D := (dC, dI)) (ci := 5) (v := .ref (o 11)) (C := RX5) (T := TX5) (N := 16) hx hb hts kt_X5 hown hK hP 0 rfl rfl 15 (by decide) (kx_word hG kq_19_xouts_60 rfl) (fun _ h9 => h9) rfl dX5_writeLocators_27 ?_
          refine lv_aload_n hx hb dX5_writeLocators_30 rfl (lv_at hl 1 rfl) ?_
          refine va_get (D := (dC, dI)) (ci := 5) (v := .ref (o 14)) (C := RX5) (T := TX5) (N := 16) hx hb hts kt_X5 hown hK hP 0 rfl rfl 9 (by decide) (kx_word hG kq_19_xouts_0 rfl) (fun _ h9 => h9) rfl dX5_writeLocators_31 ?_
          refine lv_iload_n hx hb dX5_writeLocators_34 rfl (lv_at hl 0 rfl) ?_
          have hPc := hP.sub (ws' := (sU cI 1600 (o 14) (o 7) (o 8) (o 9) (rL2 7) (rL2 8) (rL2 9) (nL2 7) (nL2 8) (nL2 9) (zL2 7) (zL2 8) (zL2 9) (FL2 7) (FL2 8) (FL2 9))) [17, 18, 19, 20, 21, 22, 23] rfl
          refine xk_pure (va_runV (As := [.int (iz k)]) (rest := [.ref (o 11)]) ⟨hx, hb, hml, hown, hts⟩ (x_sfrom l dC dI cI cB cE 1600 (o 14) (o 7) (o 8) (o 9) (rL2 7) (rL2 8) (rL2 9) (nL2 7) (nL2 8) (nL2 9) (zL2 7) (zL2 8) (zL2 9) (FL2 7) (FL2 8) (FL2 9) k H.size (by omega) (hRLL2.1.2.2.1 7) (by omega) (hRLL2.1.2.2.1 8) (by omega) (hRLL2.1.2.2.1 9) (by omega) (by omega)) (cwV 1 hts (kx_gV kq_19_xouts_8 kq_15_xspan_56 kq_15_xspan_57 kq_15_xspan_53 kq_15_xspan_58 rfl) rfl rfl rfl (by decide +kernel) ⟨Nat.le_of_ble_eq_true rfl, Nat.le_of_ble_eq_true rfl⟩) ⟨pPre_blind, va_recv hK hPc (ci := 3) (q0 := 0) rfl rfl, pPre_give hPc hK hG⟩ rfl rfl hl.1 rfl (lv_room (Nat.le_of_ble_eq_true rfl)) dX5_writeLocators_35 ⟨show (cv + 0) + 0 ≤ 100 from (by omega), show (sv + 0) + 0 ≤ 42000 from (by omega)⟩) hS (fun z_54 locs hq_53 hS => ?_)
          refine W.eq (g2 := F0 m 38 ls [.int (iz z_54), .ref (o 11)]) rfl ?_
          try dsimp only at hq_53
          have hPc := hP.sub (ws' := (pU cB (o 11) (rL2 11) (nL2 11) z_49 tl_50 F_51)) [27, 28] rfl
          have hDc := hD.sub (ws' := (pU cB (o 11) (rL2 11) (nL2 11) z_49 tl_50 F_51)) [27, 28] (by decide) rfl
          have hFc := va_free (wc := (pU cB (o 11) (rL2 11) (nL2 11) z_49 tl_50 F_51)) hD hS hA [27, 28] rfl
          refine xk_call (va_runV (As := [.int (iz z_54)]) (rest := []) ⟨hx, hb, hml, hown, hts⟩ (x_putPage l dC dI cI cB cE (o 11) (rL2 11) (nL2 11) z_49 tl_50 F_51 z_54 H.size (by omega) (by omega) hF52 (by omega) (by omega)) (cwV 1 hts (kx_gV kq_19_xouts_61 kq_19_xouts_62 kq_19_xouts_63 kq_15_xspan_17 kq_19_xouts_64 rfl) rfl rfl rfl (by decide +kernel) ⟨Nat.le_of_ble_eq_true rfl, Nat.le_of_ble_eq_true rfl⟩) ⟨kx_blind, va_recv hK hPc (ci := 2) (q0 := 0) rfl rfl, kx_give (ws := []) (tys := []) hPc hDc hK hG hZ hS hFc⟩ rfl rfl hl.1 rfl (lv_room (Nat.le_of_ble_eq_true rfl)) dX5_writeLocators_38 ⟨show (cv + 0) + 0 ≤ 100 from (by omega), show (sv + 0) + 0 ≤ 42000 from (by omega)⟩) hS (fun q _ h => hFc q h) hFc (fun u dn_56 dm_57 t H locs ht hvm hq_55 hB hk1 hS => ?_)
          obtain ⟨z_58, tl_59, F_60⟩ := u
          obtain ⟨hP1, hK1, hD1⟩ := hB
          rw [ht] at hP1
          obtain ⟨hP, hD⟩ := xj_pool (wr := [(o 15, .inr (5, [.ref (o 16), .ref (Eo 0 0), .int (iz (zL2 12)), .int (iz (zL2 13)), .int (iz (zL2 14)), .ref (o 0), .ref (o 1), .int (iz (zL2 15)), .ref (o 13), .ref (o 14), .int (iz (zL2 16)), .ref (o 2), .ref (o 12), .ref (o 3), .ref (o 10), .ref (o 11)])), (o 16, .inl (cE, 80, .inr (.inr (.inr (.inr G))))), (o 0, .inr (1, [.int (iz 80), .ref (rL2 0), .int (iz (zL2 0))])), (rL2 0, .inl (cI, nL2 0, .inl (iA (FL2 0)))), (o 1, .inr (1, [.int (iz 80), .ref (rL2 1), .int (iz (zL2 1))])), (rL2 1, .inl (cI, nL2 1, .inl (iA (FL2 1)))), (o 2, .inr (1, [.int (iz 80), .ref (rL2 2), .int (iz (zL2 2))])), (rL2 2, .inl (cI, nL2 2, .inl (iA (FL2 2)))), (o 3, .inr (1, [.int (iz 80), .ref (rL2 3), .int (iz (zL2 3))])), (rL2 3, .inl (cI, nL2 3, .inl (iA (FL2 3)))), (o 13, .inr (3, [.ref (o 4), .ref (o 5), .ref (o 6)])), (o 4, .inr (1, [.int (iz 1600), .ref (rL2 4), .int (iz (zL2 4))])), (rL2 4, .inl (cI, nL2 4, .inl (iA (FL2 4)))), (o 5, .inr (1, [.int (iz 1600), .ref (rL2 5), .int (iz (zL2 5))])), (rL2 5, .inl (cI, nL2 5, .inl (iA (FL2 5)))), (o 6, .inr (1, [.int (iz 1600), .ref (rL2 6), .int (iz (zL2 6))])), (rL2 6, .inl (cI, nL2 6, .inl (iA (FL2 6)))), (o 14, .inr (3, [.ref (o 7), .ref (o 8), .ref (o 9)])), (o 7, .inr (1, [.int (iz 1600), .ref (rL2 7), .int (iz (zL2 7))])), (rL2 7, .inl (cI, nL2 7, .inl (iA (FL2 7)))), (o 8, .inr (1, [.int (iz 1600), .ref (rL2 8), .int (iz (zL2 8))])), (rL2 8, .inl (cI, nL2 8, .inl (iA (FL2 8)))), (o 9, .inr (1, [.int (iz 1600), .ref (rL2 9), .int (iz (zL2 9))])), (rL2 9, .inl (cI, nL2 9, .inl (iA (FL2 9)))), (o 12, .inr (4, [.int (iz (zL2 17)), .int (iz (zL2 18)), .int (iz (zL2 19)), .int (iz (zL2 20)), .int (iz (zL2 21))])), (o 10, .inr (2, [.ref (rL2 10), .int (iz (zL2 10)), .int (iz (zL2 22))])), (rL2 10, .inl (cB, nL2 10, .inl (iA (FL2 10))))]) (w1 := (pU cB (o 11) (rL2 11) (nL2 11) z_58 tl_59 F_60)) (ws' := (xU cI cB cE o rL2 nL2 (va_up (va_up zL2 11 z_58) 23 tl_59) (va_up FL2 11 F_60) G (Eo 0 0))) hP hD [27, 28] [0, 1, 2, 3, 4, 5, 6, 7, 8, 9, 10, 11, 12, 13, 14, 15, 16, 17, 18, 19, 20, 21, 22, 23, 24, 25, 26] [0, 1, 2, 3, 4, 5, 6, 7, 8, 9, 10, 11, 12, 13, 14, 15, 16, 17, 18, 19, 20, 21, 22, 23, 24, 25, 26, 27, 28] rfl rfl (by decide) (by decide) hk1 hFc hP1 hD1 rfl (by decide)
          refine W.eq (g2 := F0 m 41 ls []) rfl ?_
          try dsimp only at hq_55
          obtain ⟨hd61, hm61, hz61, ht61, hF61⟩ := hq_55
          subst hd61
          subst hm61
          refine lv_aload_n hx hb dX5_writeLocators_41 rfl (lv_at hl 1 rfl) ?_
          refine va_get (D := (dC, dI)) (ci := 5) (v := .ref (o 14)) (C := RX5) (T := TX5) (N := 16) hx hb hts kt_X5 hown hK hP 0 rfl rfl 9 (by decide) (kx_word hG kq_19_xouts_0 rfl) (fun _ h9 => h9) rfl dX5_writeLocators_42 ?_
          refine lv_iload_n hx hb dX5_writeLocators_45 rfl (lv_at hl 0 rfl) ?_
          have hPc := hP.sub (ws' := (sU cI 1600 (o 14) (o 7) (o 8) (o 9) (rL2 7) (rL2 8) (rL2 9) (nL2 7) (nL2 8) (nL2 9) (zL2 7) (zL2 8) (zL2 9) (FL2 7) (FL2 8) (FL2 9))) [17, 18, 19, 20, 21, 22, 23] rfl
          refine xk_pure (va_runV (As := [.int (iz k)]) (rest := []) ⟨hx, hb, hml, hown, hts⟩ (x_sto l dC dI cI cB cE 1600 (o 14) (o 7) (o 8) (o 9) (rL2 7) (rL2 8) (rL2 9) (nL2 7) (nL2 8) (nL2 9) (zL2 7) (zL2 8) (zL2 9) (FL2 7) (FL2 8) (FL2 9) k H.size (by omega) (hRLL2.1.2.2.1 7) (by omega) (hRLL2.1.2.2.1 8) (by omega) (hRLL2.1.2.2.1 9) (by omega) (by omega)) (cwV 1 hts (kx_gV kq_19_xouts_9 kq_15_xspan_64 kq_15_xspan_65 kq_15_xspan_53 kq_15_xspan_66 rfl) rfl rfl rfl (by decide +kernel) ⟨Nat.le_of_ble_eq_true rfl, Nat.le_of_ble_eq_true rfl⟩) ⟨pPre_blind, va_recv hK hPc (ci := 3) (q0 := 0) rfl rfl, pPre_give hPc hK hG⟩ rfl rfl hl.1 rfl (lv_room (Nat.le_of_ble_eq_true rfl)) dX5_writeLocators_46 ⟨show ((cv + 0) + 0) + 0 ≤ 100 from (by omega), show ((sv + 0) + 0) + 0 ≤ 42000 from (by omega)⟩) hS (fun z_63 locs hq_62 hS => ?_)
          refine W.eq (g2 := F0 m 49 ls [.int (iz z_63)]) rfl ?_
          try dsimp only at hq_62
          refine lv_aload_n hx hb dX5_writeLocators_49 rfl (lv_at hl 1 rfl) ?_
          refine va_get (D := (dC, dI)) (ci := 5) (v := .ref (o 14)) (C := RX5) (T := TX5) (N := 16) hx hb hts kt_X5 hown hK hP 0 rfl rfl 9 (by decide) (kx_word hG kq_19_xouts_0 rfl) (fun _ h9 => h9) rfl dX5_writeLocators_50 ?_
          refine lv_iload_n hx hb dX5_writeLocators_53 rfl (lv_at hl 0 rfl) ?_
          have hPc := hP.sub (ws' := (sU cI 1600 (o 14) (o 7) (o 8) (o 9) (rL2 7) (rL2 8) (rL2 9) (nL2 7) (nL2 8) (nL2 9) (zL2 7) (zL2 8) (zL2 9) (FL2 7) (FL2 8) (FL2 9))) [17, 18, 19, 20, 21, 22, 23] rfl
          refine xk_pure (va_runV (As := [.int (iz k)]) (rest := [.int (iz z_63)]) ⟨hx, hb, hml, hown, hts⟩ (x_sfrom l dC dI cI cB cE 1600 (o 14) (o 7) (o 8) (o 9) (rL2 7) (rL2 8) (rL2 9) (nL2 7) (nL2 8) (nL2 9) (zL2 7) (zL2 8) (zL2 9) (FL2 7) (FL2 8) (FL2 9) k H.size (by omega) (hRLL2.1.2.2.1 7) (by omega) (hRLL2.1.2.2.1 8) (by omega) (hRLL2.1.2.2.1 9) (by omega) (by omega)) (cwV 1 hts (kx_gV kq_19_xouts_8 kq_15_xspan_56 kq_15_xspan_57 kq_15_xspan_53 kq_15_xspan_58 rfl) rfl rfl rfl (by decide +kernel) ⟨Nat.le_of_ble_eq_true rfl, Nat.le_of_ble_eq_true rfl⟩) ⟨pPre_blind, va_recv hK hPc (ci := 3) (q0 := 0) rfl rfl, pPre_give hPc hK hG⟩ rfl rfl hl.1 rfl (lv_room (Nat.le_of_ble_eq_true rfl)) dX5_writeLocators_54 ⟨show ((cv + 0) + 0) + 0 ≤ 100 from (by omega), show ((sv + 0) + 0) + 0 ≤ 42000 from (by omega)⟩) hS (fun z_65 locs hq_64 hS => ?_)
          refine W.eq (g2 := F0 m 57 ls [.int (iz z_65), .int (iz z_63)]) rfl ?_
          try dsimp only at hq_64
          refine ki_icmp_eq (tgt := 84) hx hb dX5_writeLocators_57 (by decide) (by omega) (by omega) (by omega) (by omega) (fun c_66 => ?_) (fun c_66 => ?_)
          · skip
            refine lv_iinc (v := iz (k + 1)) (lv' := [(1, .int (iz (k + 1))), (0, .ref (o 15))]) hx hb dX5_writeLocators_84 hl (k := 0) rfl (iz_add k 1) (by decide) rfl (fun ls hl => ?_)
            refine lv_goto (tgt := 2) hx hb dX5_writeLocators_87 (by decide) ?_
            have hok67 : xOk (va_up nL2 11 (nL2 11)) (va_up (va_up zL2 11 z_58) 23 tl_59) (va_up FL2 11 F_60) := ((hRLL2.1.p 11 (by decide) (show 0 ≤ z_58 ∧ z_58 ≤ ((nL2 11 : Nat) : Int) ∧ (nL2 11 = 0 ∨ nL2 11 = 6000) by omega) hF61).s 23 (by decide) (show -2147483648 ≤ tl_59 ∧ tl_59 < 2147483648 by omega) (by omega))
            have hfr67 : xFr [11, 23] [11] z F (va_up (va_up zL2 11 z_58) 23 tl_59) (va_up FL2 11 F_60) := (((hRLL2.2.1.uz 11 (by decide) _).uz 23 (by decide) _).uf 11 (by decide) _)
            have hcg67 : (0) + xg (va_up nL2 11 (nL2 11)) ≤ xg nL2 := by unfold xg; simp (decide := true) only [va_ev, ↓reduceIte]; omega
            have hcp67 : (0) + xp (va_up nL2 11 (nL2 11)) ≤ xp nL2 := by unfold xp; simp (decide := true) only [va_ev, ↓reduceIte]; omega
            exact ih2 (k + 1) rL2 (va_up nL2 11 (nL2 11)) (va_up (va_up zL2 11 z_58) 23 tl_59) (va_up FL2 11 F_60) ((cv + 0) + 0) ((sv + 0) + 0) ⟨⟨hok67, hfr67, hRLL2.2.2.1, hRLL2.2.2.2⟩, ⟨by omega, by omega⟩, (show zL2 12 = z 12 by omega), by omega⟩ (by omega) _ _ hP hD hS ls (lv_sub hl [0, 1] rfl)
          · skip
            refine lv_aload_n hx hb dX5_writeLocators_60 rfl (lv_at hl 1 rfl) ?_
            refine va_get (D := (dC, dI)) (ci := 5) (v := .ref (o 11)) (C := RX5) (T := TX5) (N := 16) hx hb hts kt_X5 hown hK hP 0 rfl rfl 15 (by decide) (kx_word hG kq_19_xouts_60 rfl) (fun _ h9 => h9) rfl dX5_writeLocators_61 ?_
            refine lv_bipush (v := iz 45) hx hb dX5_writeLocators_64 (by decide) ?_
            have hPc := hP.sub (ws' := (pU cB (o 11) (rL2 11) (nL2 11) z_58 tl_59 F_60)) [27, 28] rfl
            have hDc := hD.sub (ws' := (pU cB (o 11) (rL2 11) (nL2 11) z_58 tl_59 F_60)) [27, 28] (by decide) rfl
            have hFc := va_free (wc := (pU cB (o 11) (rL2 11) (nL2 11) z_58 tl_59 F_60)) hD hS hA [27, 28] rfl
            refine xk_call (va_runV (As := [.int (iz 45)]) (rest := []) ⟨hx, hb, hml, hown, hts⟩ (x_put l dC dI cI cB cE (o 11) (rL2 11) (nL2 11) z_58 tl_59 F_60 45 H.size (by omega) (by omega) hF61 (by omega) (by omega)) (cwV 1 hts (kx_gV kq_19_xouts_65 kq_15_xspan_15 kq_15_xspan_16 kq_15_xspan_17 kq_15_xspan_18 rfl) rfl rfl rfl (by decide +kernel) ⟨Nat.le_of_ble_eq_true rfl, Nat.le_of_ble_eq_true rfl⟩) ⟨kx_blind, va_recv hK hPc (ci := 2) (q0 := 0) rfl rfl, kx_give (ws := []) (tys := []) hPc hDc hK hG hZ hS hFc⟩ rfl rfl hl.1 rfl (lv_room (Nat.le_of_ble_eq_true rfl)) dX5_writeLocators_66 ⟨show ((cv + 0) + 0) + 0 ≤ 100 from (by omega), show ((sv + 0) + 0) + 0 ≤ 42000 from (by omega)⟩) hS (fun q _ h => hFc q h) hFc (fun u dn_69 dm_70 t H locs ht hvm hq_68 hB hk1 hS => ?_)
            obtain ⟨z_71, tl_72, F_73⟩ := u
            obtain ⟨hP1, hK1, hD1⟩ := hB
            rw [ht] at hP1
            obtain ⟨hP, hD⟩ := xj_pool (wr := [(o 15, .inr (5, [.ref (o 16), .ref (Eo 0 0), .int (iz (zL2 12)), .int (iz (zL2 13)), .int (iz (zL2 14)), .ref (o 0), .ref (o 1), .int (iz (zL2 15)), .ref (o 13), .ref (o 14), .int (iz (zL2 16)), .ref (o 2), .ref (o 12), .ref (o 3), .ref (o 10), .ref (o 11)])), (o 16, .inl (cE, 80, .inr (.inr (.inr (.inr G))))), (o 0, .inr (1, [.int (iz 80), .ref (rL2 0), .int (iz (zL2 0))])), (rL2 0, .inl (cI, nL2 0, .inl (iA (FL2 0)))), (o 1, .inr (1, [.int (iz 80), .ref (rL2 1), .int (iz (zL2 1))])), (rL2 1, .inl (cI, nL2 1, .inl (iA (FL2 1)))), (o 2, .inr (1, [.int (iz 80), .ref (rL2 2), .int (iz (zL2 2))])), (rL2 2, .inl (cI, nL2 2, .inl (iA (FL2 2)))), (o 3, .inr (1, [.int (iz 80), .ref (rL2 3), .int (iz (zL2 3))])), (rL2 3, .inl (cI, nL2 3, .inl (iA (FL2 3)))), (o 13, .inr (3, [.ref (o 4), .ref (o 5), .ref (o 6)])), (o 4, .inr (1, [.int (iz 1600), .ref (rL2 4), .int (iz (zL2 4))])), (rL2 4, .inl (cI, nL2 4, .inl (iA (FL2 4)))), (o 5, .inr (1, [.int (iz 1600), .ref (rL2 5), .int (iz (zL2 5))])), (rL2 5, .inl (cI, nL2 5, .inl (iA (FL2 5)))), (o 6, .inr (1, [.int (iz 1600), .ref (rL2 6), .int (iz (zL2 6))])), (rL2 6, .inl (cI, nL2 6, .inl (iA (FL2 6)))), (o 14, .inr (3, [.ref (o 7), .ref (o 8), .ref (o 9)])), (o 7, .inr (1, [.int (iz 1600), .ref (rL2 7), .int (iz (zL2 7))])), (rL2 7, .inl (cI, nL2 7, .inl (iA (FL2 7)))), (o 8, .inr (1, [.int (iz 1600), .ref (rL2 8), .int (iz (zL2 8))])), (rL2 8, .inl (cI, nL2 8, .inl (iA (FL2 8)))), (o 9, .inr (1, [.int (iz 1600), .ref (rL2 9), .int (iz (zL2 9))])), (rL2 9, .inl (cI, nL2 9, .inl (iA (FL2 9)))), (o 12, .inr (4, [.int (iz (zL2 17)), .int (iz (zL2 18)), .int (iz (zL2 19)), .int (iz (zL2 20)), .int (iz (zL2 21))])), (o 10, .inr (2, [.ref (rL2 10), .int (iz (zL2 10)), .int (iz (zL2 22))])), (rL2 10, .inl (cB, nL2 10, .inl (iA (FL2 10))))]) (w1 := (pU cB (o 11) (rL2 11) (nL2 11) z_71 tl_72 F_73)) (ws' := (xU cI cB cE o rL2 nL2 (va_up (va_up zL2 11 z_71) 23 tl_72) (va_up FL2 11 F_73) G (Eo 0 0))) hP hD [27, 28] [0, 1, 2, 3, 4, 5, 6, 7, 8, 9, 10, 11, 12, 13, 14, 15, 16, 17, 18, 19, 20, 21, 22, 23, 24, 25, 26] [0, 1, 2, 3, 4, 5, 6, 7, 8, 9, 10, 11, 12, 13, 14, 15, 16, 17, 18, 19, 20, 21, 22, 23, 24, 25, 26, 27, 28] rfl rfl (by decide) (by decide) hk1 hFc hP1 hD1 rfl (by decide)
            refine W.eq (g2 := F0 m 69 ls []) rfl ?_
            try dsimp only at hq_68
            obtain ⟨hd74, hm74, hz74, ht74, hF74⟩ := hq_68
            subst hd74
            subst hm74
            refine lv_aload_n hx hb dX5_writeLocators_69 rfl (lv_at hl 1 rfl) ?_
            refine va_get (D := (dC, dI)) (ci := 5) (v := .ref (o 11)) (C := RX5) (T := TX5) (N := 16) hx hb hts kt_X5 hown hK hP 0 rfl rfl 15 (by decide) (kx_word hG kq_19_xouts_60 rfl) (fun _ h9 => h9) rfl dX5_writeLocators_70 ?_
            refine lv_aload_n hx hb dX5_writeLocators_73 rfl (lv_at hl 1 rfl) ?_
            refine va_get (D := (dC, dI)) (ci := 5) (v := .ref (o 14)) (C := RX5) (T := TX5) (N := 16) hx hb hts kt_X5 hown hK hP 0 rfl rfl 9 (by decide) (kx_word hG kq_19_xouts_0 rfl) (fun _ h9 => h9) rfl dX5_writeLocators_74 ?_
            refine lv_iload_n hx hb dX5_writeLocators_77 rfl (lv_at hl 0 rfl) ?_
            have hPc := hP.sub (ws' := (sU cI 1600 (o 14) (o 7) (o 8) (o 9) (rL2 7) (rL2 8) (rL2 9) (nL2 7) (nL2 8) (nL2 9) (zL2 7) (zL2 8) (zL2 9) (FL2 7) (FL2 8) (FL2 9))) [17, 18, 19, 20, 21, 22, 23] rfl
            refine xk_pure (va_runV (As := [.int (iz k)]) (rest := [.ref (o 11)]) ⟨hx, hb, hml, hown, hts⟩ (x_sto l dC dI cI cB cE 1600 (o 14) (o 7) (o 8) (o 9) (rL2 7) (rL2 8) (rL2 9) (nL2 7) (nL2 8) (nL2 9) (zL2 7) (zL2 8) (zL2 9) (FL2 7) (FL2 8) (FL2 9) k H.size (by omega) (hRLL2.1.2.2.1 7) (by omega) (hRLL2.1.2.2.1 8) (by omega) (hRLL2.1.2.2.1 9) (by omega) (by omega)) (cwV 1 hts (kx_gV kq_19_xouts_9 kq_15_xspan_64 kq_15_xspan_65 kq_15_xspan_53 kq_15_xspan_66 rfl) rfl rfl rfl (by decide +kernel) ⟨Nat.le_of_ble_eq_true rfl, Nat.le_of_ble_eq_true rfl⟩) ⟨pPre_blind, va_recv hK hPc (ci := 3) (q0 := 0) rfl rfl, pPre_give hPc hK hG⟩ rfl rfl hl.1 rfl (lv_room (Nat.le_of_ble_eq_true rfl)) dX5_writeLocators_78 ⟨show (((cv + 0) + 0) + 0) + 0 ≤ 100 from (by omega), show (((sv + 0) + 0) + 0) + 0 ≤ 42000 from (by omega)⟩) hS (fun z_76 locs hq_75 hS => ?_)
            refine W.eq (g2 := F0 m 81 ls [.int (iz z_76), .ref (o 11)]) rfl ?_
            try dsimp only at hq_75
            have hPc := hP.sub (ws' := (pU cB (o 11) (rL2 11) (nL2 11) z_71 tl_72 F_73)) [27, 28] rfl
            have hDc := hD.sub (ws' := (pU cB (o 11) (rL2 11) (nL2 11) z_71 tl_72 F_73)) [27, 28] (by decide) rfl
            have hFc := va_free (wc := (pU cB (o 11) (rL2 11) (nL2 11) z_71 tl_72 F_73)) hD hS hA [27, 28] rfl
            refine xk_call (va_runV (As := [.int (iz z_76)]) (rest := []) ⟨hx, hb, hml, hown, hts⟩ (x_putPage l dC dI cI cB cE (o 11) (rL2 11) (nL2 11) z_71 tl_72 F_73 z_76 H.size (by omega) (by omega) hF74 (by omega) (by omega)) (cwV 1 hts (kx_gV kq_19_xouts_61 kq_19_xouts_62 kq_19_xouts_63 kq_15_xspan_17 kq_19_xouts_64 rfl) rfl rfl rfl (by decide +kernel) ⟨Nat.le_of_ble_eq_true rfl, Nat.le_of_ble_eq_true rfl⟩) ⟨kx_blind, va_recv hK hPc (ci := 2) (q0 := 0) rfl rfl, kx_give (ws := []) (tys := []) hPc hDc hK hG hZ hS hFc⟩ rfl rfl hl.1 rfl (lv_room (Nat.le_of_ble_eq_true rfl)) dX5_writeLocators_81 ⟨show (((cv + 0) + 0) + 0) + 0 ≤ 100 from (by omega), show (((sv + 0) + 0) + 0) + 0 ≤ 42000 from (by omega)⟩) hS (fun q _ h => hFc q h) hFc (fun u dn_78 dm_79 t H locs ht hvm hq_77 hB hk1 hS => ?_)
            obtain ⟨z_80, tl_81, F_82⟩ := u
            obtain ⟨hP1, hK1, hD1⟩ := hB
            rw [ht] at hP1
            obtain ⟨hP, hD⟩ := xj_pool (wr := [(o 15, .inr (5, [.ref (o 16), .ref (Eo 0 0), .int (iz (zL2 12)), .int (iz (zL2 13)), .int (iz (zL2 14)), .ref (o 0), .ref (o 1), .int (iz (zL2 15)), .ref (o 13), .ref (o 14), .int (iz (zL2 16)), .ref (o 2), .ref (o 12), .ref (o 3), .ref (o 10), .ref (o 11)])), (o 16, .inl (cE, 80, .inr (.inr (.inr (.inr G))))), (o 0, .inr (1, [.int (iz 80), .ref (rL2 0), .int (iz (zL2 0))])), (rL2 0, .inl (cI, nL2 0, .inl (iA (FL2 0)))), (o 1, .inr (1, [.int (iz 80), .ref (rL2 1), .int (iz (zL2 1))])), (rL2 1, .inl (cI, nL2 1, .inl (iA (FL2 1)))), (o 2, .inr (1, [.int (iz 80), .ref (rL2 2), .int (iz (zL2 2))])), (rL2 2, .inl (cI, nL2 2, .inl (iA (FL2 2)))), (o 3, .inr (1, [.int (iz 80), .ref (rL2 3), .int (iz (zL2 3))])), (rL2 3, .inl (cI, nL2 3, .inl (iA (FL2 3)))), (o 13, .inr (3, [.ref (o 4), .ref (o 5), .ref (o 6)])), (o 4, .inr (1, [.int (iz 1600), .ref (rL2 4), .int (iz (zL2 4))])), (rL2 4, .inl (cI, nL2 4, .inl (iA (FL2 4)))), (o 5, .inr (1, [.int (iz 1600), .ref (rL2 5), .int (iz (zL2 5))])), (rL2 5, .inl (cI, nL2 5, .inl (iA (FL2 5)))), (o 6, .inr (1, [.int (iz 1600), .ref (rL2 6), .int (iz (zL2 6))])), (rL2 6, .inl (cI, nL2 6, .inl (iA (FL2 6)))), (o 14, .inr (3, [.ref (o 7), .ref (o 8), .ref (o 9)])), (o 7, .inr (1, [.int (iz 1600), .ref (rL2 7), .int (iz (zL2 7))])), (rL2 7, .inl (cI, nL2 7, .inl (iA (FL2 7)))), (o 8, .inr (1, [.int (iz 1600), .ref (rL2 8), .int (iz (zL2 8))])), (rL2 8, .inl (cI, nL2 8, .inl (iA (FL2 8)))), (o 9, .inr (1, [.int (iz 1600), .ref (rL2 9), .int (iz (zL2 9))])), (rL2 9, .inl (cI, nL2 9, .inl (iA (FL2 9)))), (o 12, .inr (4, [.int (iz (zL2 17)), .int (iz (zL2 18)), .int (iz (zL2 19)), .int (iz (zL2 20)), .int (iz (zL2 21))])), (o 10, .inr (2, [.ref (rL2 10), .int (iz (zL2 10)), .int (iz (zL2 22))])), (rL2 10, .inl (cB, nL2 10, .inl (iA (FL2 10))))]) (w1 := (pU cB (o 11) (rL2 11) (nL2 11) z_80 tl_81 F_82)) (ws' := (xU cI cB cE o rL2 nL2 (va_up (va_up zL2 11 z_80) 23 tl_81) (va_up FL2 11 F_82) G (Eo 0 0))) hP hD [27, 28] [0, 1, 2, 3, 4, 5, 6, 7, 8, 9, 10, 11, 12, 13, 14, 15, 16, 17, 18, 19, 20, 21, 22, 23, 24, 25, 26] [0, 1, 2, 3, 4, 5, 6, 7, 8, 9, 10, 11, 12, 13, 14, 15, 16, 17, 18, 19, 20, 21, 22, 23, 24, 25, 26, 27, 28] rfl rfl (by decide) (by decide) hk1 hFc hP1 hD1 rfl (by decide)
            refine W.eq (g2 := F0 m 84 ls []) rfl ?_
            try dsimp only at hq_77
            obtain ⟨hd83, hm83, hz83, ht83, hF83⟩ := hq_77
            subst hd83
            subst hm83
            refine lv_iinc (v := iz (k + 1)) (lv' := [(1, .int (iz (k + 1))), (0, .ref (o 15))]) hx hb dX5_writeLocators_84 hl (k := 0) rfl (iz_add k 1) (by decide) rfl (fun ls hl => ?_)
            refine lv_goto (tgt := 2) hx hb dX5_writeLocators_87 (by decide) ?_
            have hok84 : xOk (va_up nL2 11 (nL2 11)) (va_up (va_up zL2 11 z_80) 23 tl_81) (va_up FL2 11 F_82) := ((hRLL2.1.p 11 (by decide) (show 0 ≤ z_80 ∧ z_80 ≤ ((nL2 11 : Nat) : Int) ∧ (nL2 11 = 0 ∨ nL2 11 = 6000) by omega) hF83).s 23 (by decide) (show -2147483648 ≤ tl_81 ∧ tl_81 < 2147483648 by omega) (by omega))
            have hfr84 : xFr [11, 23] [11] z F (va_up (va_up zL2 11 z_80) 23 tl_81) (va_up FL2 11 F_82) := (((hRLL2.2.1.uz 11 (by decide) _).uz 23 (by decide) _).uf 11 (by decide) _)
            have hcg84 : (0) + xg (va_up nL2 11 (nL2 11)) ≤ xg nL2 := by unfold xg; simp (decide := true) only [va_ev, ↓reduceIte]; omega
            have hcp84 : (0) + xp (va_up nL2 11 (nL2 11)) ≤ xp nL2 := by unfold xp; simp (decide := true) only [va_ev, ↓reduceIte]; omega
            exact ih2 (k + 1) rL2 (va_up nL2 11 (nL2 11)) (va_up (va_up zL2 11 z_80) 23 tl_81) (va_up FL2 11 F_82) ((((cv + 0) + 0) + 0) + 0) ((((sv + 0) + 0) + 0) + 0) ⟨⟨hok84, hfr84, hRLL2.2.2.1, hRLL2.2.2.2⟩, ⟨by omega, by omega⟩, (show zL2 12 = z 12 by omega), by omega⟩ (by omega) _ _ hP hD hS ls (lv_sub hl [0, 1] rfl)
  exact lp2 _ 0 r n z F 0 0 ⟨⟨hok, hfr, hPE, hef⟩, ⟨by omega, by omega⟩, (show z 12 = z 12 by omega), by omega⟩ (Nat.lt_succ_self _) _ _ hP hD hS ls (lv_sub hl [0, 1] rfl)
set_option maxHeartbeats 4000000 in
set_option maxRecDepth 100000 in
theorem y_writeSeen (l : Launch) (dC : Nat → ClassId) (dI : Nat → Nat → Nat) (cI cB cE : ClassId) (o r n : Nat → Nat) (z : Nat → Int) (F : Nat → Int → Int) (G : Nat → Option Nat) (N : Nat) (Eo Er En : Nat → Nat → Nat) (Ez : Nat → Nat → Int) (EF : Nat → Nat → Int → Int) (sz : Nat) (hok : xOk n z F) (hxG : xG N (z 12) G Eo) (hPE : eA N En Ez EF) : Met l yX5_writeSeen [.code yX5_writeSeen cX5_writeSeen 2 none] ({ frames := 2, cells := 100, slots := 42000, locals := 43 }) (va_Pc [.ref (o 15)] (kx_Pre dC dI (xU cI cB cE o r n z F G (Eo 0 0) ++ eP cI N Eo Er En Ez EF) (xT cI cB cE) sz)) (xQ (fun _ : (Nat → Nat) × (Nat → Nat) × (Nat → Int) × (Nat → Int → Int) × (Nat → Nat → Nat) × (Nat → Nat → Nat) × (Nat → Nat → Int) × (Nat → Nat → Int → Int) => none) (fun (u : (Nat → Nat) × (Nat → Nat) × (Nat → Int) × (Nat → Int → Int) × (Nat → Nat → Nat) × (Nat → Nat → Nat) × (Nat → Nat → Int) × (Nat → Nat → Int → Int)) (dn dm : Nat) => match u with | (r', n', z', F', Er', En', Ez', EF') => xR [11, 23] [11] [] [] N z F En Ez EF n' z' F' En' Ez' EF' ∧ (dn + xg n' ≤ xg n + 0 ∧ dm + xp n' ≤ xp n + 0) ∧ (True)) (fun u t => kx_At dC dI (va_A (xU cI cB cE o r n z F G (Eo 0 0) ++ eP cI N Eo Er En Ez EF) sz) ((fun u : (Nat → Nat) × (Nat → Nat) × (Nat → Int) × (Nat → Int → Int) × (Nat → Nat → Nat) × (Nat → Nat → Nat) × (Nat → Nat → Int) × (Nat → Nat → Int → Int) => match u with | (r', n', z', F', Er', En', Ez', EF') => (xU cI cB cE o r' n' z' F' G (Eo 0 0) ++ eP cI N Eo Er' En' Ez' EF')) u) (xT cI cB cE) t) (va_A (xU cI cB cE o r n z F G (Eo 0 0) ++ eP cI N Eo Er En Ez EF) sz)) 100 42000 (va_A (xU cI cB cE o r n z F G (Eo 0 0) ++ eP cI N Eo Er En Ez EF) sz) := by
  refine Met.ofW (cc := cX5_writeSeen) (maxL := 2) (ret := none) (by decide) rfl ?_
  intro p e s m args below meth c s₁ B hml hv
  obtain ⟨rfl, hsz, hP, hK, hD0, hG, hZ⟩ := hv
  have hx := B.exec
  have hb := B.bytes
  have hr := B.returns
  have hts := kx_hts (a := ([.ref (o 15)] : List Value).toArray) hG
  have hown : s.vm.findClass RX5 = some m.cls := findClass_of_methodNamed B.named
  have hlocks := B.notSynchronized
  subst hsz
  have hD := hD0.self (sz := s.heap.size)
  generalize hAe : va_A (xU cI cB cE o r n z F G (Eo 0 0) ++ eP cI N Eo Er En Ez EF) s.heap.size = A at hD hZ ⊢
  have hA : ∀ q : Nat, s.heap.size ≤ q → A q := fun q h => by rw [← hAe]; exact Or.inr h
  have hS : va_S A s.heap s.heap [] := va_S.rf
  have hl := lv_entry ([.ref (o 15)]) (n := 2) (Nat.le_of_ble_eq_true rfl)
  rw [lg_entry_eq]
  generalize (lg_sl ([.ref (o 15)]) ++ List.replicate (2 - (lg_sl ([.ref (o 15)])).length) Slot.unset).toArray = ls at hl ⊢
  obtain ⟨hN1, hN2, hN3, hN4⟩ := hxG
  have hef : eFr [] [] En Ez EF En Ez EF := eFr.rf
  have hfr : xFr [11, 23] [11] z F z F := xFr.rf
  have hxgl := xg_le n
  have hxpl := xp_le n
  have hl : lv_has ls 2 [(0, .ref (o 15))] := hl
  generalize hQe : MQ below (xQ (fun _ : (Nat → Nat) × (Nat → Nat) × (Nat → Int) × (Nat → Int → Int) × (Nat → Nat → Nat) × (Nat → Nat → Nat) × (Nat → Nat → Int) × (Nat → Nat → Int → Int) => none) (fun (u : (Nat → Nat) × (Nat → Nat) × (Nat → Int) × (Nat → Int → Int) × (Nat → Nat → Nat) × (Nat → Nat → Nat) × (Nat → Nat → Int) × (Nat → Nat → Int → Int)) (dn dm : Nat) => match u with | (r', n', z', F', Er', En', Ez', EF') => xR [11, 23] [11] [] [] N z F En Ez EF n' z' F' En' Ez' EF' ∧ (dn + xg n' ≤ xg n + 0 ∧ dm + xp n' ≤ xp n + 0) ∧ (True)) (fun u t => kx_At dC dI A ((fun u : (Nat → Nat) × (Nat → Nat) × (Nat → Int) × (Nat → Int → Int) × (Nat → Nat → Nat) × (Nat → Nat → Nat) × (Nat → Nat → Int) × (Nat → Nat → Int → Int) => match u with | (r', n', z', F', Er', En', Ez', EF') => (xU cI cB cE o r' n' z' F' G (Eo 0 0) ++ eP cI N Eo Er' En' Ez' EF')) u) (xT cI cB cE) t) A) ([.ref (o 15)] : List Value).toArray s 100 42000 A = QQ
  have hz2 : 0 ≤ z 2 ∧ z 2 ≤ (n 2 : Int) ∧ (n 2 : Int) ≤ 80 := hok.1 2 (by decide)
  refine lv_iconst (v := iz 0) hx hb dX5_writeSeen_0 (by decide) ?_
  refine lv_istore_n (lv' := [(1, .int (iz 0)), (0, .ref (o 15))]) hx hb dX5_writeSeen_1 rfl hl (by decide) rfl (fun ls hl => ?_)
  have lp2 : ∀ (n0 : Nat) (k : Int) (rL2 : Nat → Nat) (nL2 : Nat → Nat) (zL2 : Nat → Int) (FL2 : Nat → Int → Int) (cv : Nat) (sv : Nat), ((xR [11, 23] [11] [] [] N z F En Ez EF nL2 zL2 FL2 En Ez EF) ∧ (cv + xg nL2 ≤ xg n + (0) ∧ sv + xp nL2 ≤ xp n + (0)) ∧ (zL2 12 = z 12) ∧ (0 ≤ k ∧ k ≤ 80)) → (z 2 - k).toNat < n0 → ∀ (H : Heap) (locs : List Loc), va_P (dC, dI) kxCl ((xU cI cB cE o rL2 nL2 zL2 FL2 G (Eo 0 0)) ++ (eP cI N Eo Er En Ez EF)) H → va_D A ((xU cI cB cE o rL2 nL2 zL2 FL2 G (Eo 0 0)) ++ (eP cI N Eo Er En Ez EF)) → va_S A s.heap H locs → ∀ ls : Array Slot, lv_has ls 2 [(1, .int (iz k)), (0, .ref (o 15))] → W p l e (headSpec [.code yX5_writeSeen cX5_writeSeen 2 none] ({ frames := 2, cells := 100, slots := 42000, locals := 43 })).room s m ([.ref (o 15)] : List Value).toArray below meth c H locs cv sv QQ (F0 m 2 ls []) := by
    intro n0
    induction n0 with
    | zero => intro k rL2 nL2 zL2 FL2 cv sv hinv hm0; exact absurd hm0 (Nat.not_lt_zero _)
    | succ n0 ih2 =>
      intro k rL2 nL2 zL2 FL2 cv sv hinv hm0 H locs hP hD hS ls hl
      obtain ⟨hRLL2, hCLL2, hZLL2, hk⟩ := hinv
      have hkzL2_2 : zL2 2 = z 2 := hRLL2.2.1.1 2 (by decide)
      refine lv_iload_n hx hb dX5_writeSeen_2 rfl (lv_at hl 0 rfl) ?_
      refine lv_aload_n hx hb dX5_writeSeen_3 rfl (lv_at hl 1 rfl) ?_
      refine va_get (D := (dC, dI)) (ci := 5) (v := .ref (o 2)) (C := RX5) (T := TX5) (N := 16) hx hb hts kt_X5 hown hK hP 0 rfl rfl 11 (by decide) (kx_word hG kq_19_xouts_27 rfl) (fun _ h9 => h9) rfl dX5_writeSeen_4 ?_
      have hxi_1 : 0 ≤ zL2 2 ∧ zL2 2 ≤ ((nL2 2 : Nat) : Int) ∧ ((nL2 2 : Nat) : Int) ≤ 80 := hRLL2.1.1 2 (by decide)
      have hPc := hP.sub (ws' := (iU cI 80 (o 2) (rL2 2) (nL2 2) (zL2 2) (FL2 2))) [6, 7] rfl
      refine xk_pure (va_runV (As := []) (rest := [.int (iz k)]) ⟨hx, hb, hml, hown, hts⟩ (x_size l dC dI cI cB cE 80 (o 2) (rL2 2) (nL2 2) (zL2 2) (FL2 2)  H.size ) (cwV 0 hts (kx_gV kq_18_xrows_40 kq_15_xspan_10 kq_15_xspan_11 kq_13_xints_6 kq_15_xspan_12 rfl) rfl rfl rfl (by decide +kernel) ⟨Nat.le_of_ble_eq_true rfl, Nat.le_of_ble_eq_true rfl⟩) ⟨pPre_blind, va_recv hK hPc (ci := 1) (q0 := 0) rfl rfl, pPre_give hPc hK hG⟩ rfl rfl hl.1 rfl (lv_room (Nat.le_of_ble_eq_true rfl)) dX5_writeSeen_7 ⟨show cv + 0 ≤ 100 from (by omega), show sv + 0 ≤ 42000 from (by omega)⟩) hS (fun z_3 locs hq_2 hS => ?_)
      refine W.eq (g2 := F0 m 10 ls [.int (iz z_3), .int (iz k)]) rfl ?_
      try dsimp only at hq_2
      have hq_2 := hq_2.symm
      subst hq_2
      refine ki_icmp_ge (tgt := 54) hx hb dX5_writeSeen_10 (by decide) (by omega) (by omega) (by omega) (by omega) (fun c_4 => ?_) (fun c_4 => ?_)
      · skip
        rw [← hQe]
        exact xk_vret (ov := (fun _ : (Nat → Nat) × (Nat → Nat) × (Nat → Int) × (Nat → Int → Int) × (Nat → Nat → Nat) × (Nat → Nat → Nat) × (Nat → Nat → Int) × (Nat → Nat → Int → Int) => none)) (post := (fun (u : (Nat → Nat) × (Nat → Nat) × (Nat → Int) × (Nat → Int → Int) × (Nat → Nat → Nat) × (Nat → Nat → Nat) × (Nat → Nat → Int) × (Nat → Nat → Int → Int)) (dn dm : Nat) => match u with | (r', n', z', F', Er', En', Ez', EF') => xR [11, 23] [11] [] [] N z F En Ez EF n' z' F' En' Ez' EF' ∧ (dn + xg n' ≤ xg n + 0 ∧ dm + xp n' ≤ xp n + 0) ∧ (True))) (ws := (fun u : (Nat → Nat) × (Nat → Nat) × (Nat → Int) × (Nat → Int → Int) × (Nat → Nat → Nat) × (Nat → Nat → Nat) × (Nat → Nat → Int) × (Nat → Nat → Int → Int) => match u with | (r', n', z', F', Er', En', Ez', EF') => (xU cI cB cE o r' n' z' F' G (Eo 0 0) ++ eP cI N Eo Er' En' Ez' EF'))) (tys := xT cI cB cE) (rL2, nL2, zL2, FL2, Er, En, Ez, EF) hx hb hr hlocks rfl hP hD hK hS dX5_writeSeen_54 (fun dn dm hdn hdm => ⟨⟨hRLL2.1, hRLL2.2.1, hRLL2.2.2.1, hRLL2.2.2.2⟩, ⟨by omega, by omega⟩, trivial⟩) (by omega) (by omega)
      · skip
        refine lv_iload_n hx hb dX5_writeSeen_13 rfl (lv_at hl 0 rfl) ?_
        refine ki_if_le (tgt := 26) hx hb dX5_writeSeen_14 (by decide) (by omega) (by omega) (fun c_5 => ?_) (fun c_5 => ?_)
        · skip
          refine lv_aload_n hx hb dX5_writeSeen_26 rfl (lv_at hl 1 rfl) ?_
          refine va_get (D := (dC, dI)) (ci := 5) (v := .ref (o 11)) (C := RX5) (T := TX5) (N := 16) hx hb hts kt_X5 hown hK hP 0 rfl rfl 15 (by decide) (kx_word hG kq_19_xouts_60 rfl) (fun _ h9 => h9) rfl dX5_writeSeen_27 ?_
          refine lv_aload_n hx hb dX5_writeSeen_30 rfl (lv_at hl 1 rfl) ?_
          refine lv_aload_n hx hb dX5_writeSeen_31 rfl (lv_at hl 1 rfl) ?_
          refine va_get (D := (dC, dI)) (ci := 5) (v := .ref (o 2)) (C := RX5) (T := TX5) (N := 16) hx hb hts kt_X5 hown hK hP 0 rfl rfl 11 (by decide) (kx_word hG kq_19_xouts_27 rfl) (fun _ h9 => h9) rfl dX5_writeSeen_32 ?_
          refine lv_iload_n hx hb dX5_writeSeen_35 rfl (lv_at hl 0 rfl) ?_
          have hPc := hP.sub (ws' := (iU cI 80 (o 2) (rL2 2) (nL2 2) (zL2 2) (FL2 2))) [6, 7] rfl
          refine xk_pure (va_runV (As := [.int (iz k)]) (rest := [.ref (o 15), .ref (o 11)]) ⟨hx, hb, hml, hown, hts⟩ (x_get l dC dI cI cB cE 80 (o 2) (rL2 2) (nL2 2) (zL2 2) (FL2 2) k H.size (by omega) (hRLL2.1.2.2.1 2) (by omega) (by omega)) (cwV 1 hts (kx_gV kq_18_xrows_41 kq_13_xints_4 kq_13_xints_5 kq_13_xints_6 kq_13_xints_7 rfl) rfl rfl rfl (by decide +kernel) ⟨Nat.le_of_ble_eq_true rfl, Nat.le_of_ble_eq_true rfl⟩) ⟨pPre_blind, va_recv hK hPc (ci := 1) (q0 := 0) rfl rfl, pPre_give hPc hK hG⟩ rfl rfl hl.1 rfl (lv_room (Nat.le_of_ble_eq_true rfl)) dX5_writeSeen_36 ⟨show cv + 0 ≤ 100 from (by omega), show sv + 0 ≤ 42000 from (by omega)⟩) hS (fun z_7 locs hq_6 hS => ?_)
          refine W.eq (g2 := F0 m 39 ls [.int (iz z_7), .ref (o 15), .ref (o 11)]) rfl ?_
          try dsimp only at hq_6
          have hxz_8 : -2147483648 ≤ zL2 12 ∧ zL2 12 < 2147483648 := hRLL2.1.2.2.2.1 12
          have hxG9 : xG N (zL2 12) G Eo := ⟨by omega, by omega, by omega, fun e9 h9 => hN4 e9 (by omega)⟩
          have hP : va_P (dC, dI) kxCl (xU cI cB cE o rL2 nL2 zL2 FL2 G (Eo 0 0) ++ eP cI N Eo Er En Ez EF) H := hP
          refine xk_pure (va_runV (As := [.int (iz z_7)]) (rest := [.ref (o 11)]) ⟨hx, hb, hml, hown, hts⟩ (y_known l dC dI cI cB cE o rL2 nL2 zL2 FL2 G N Eo Er En Ez EF z_7 H.size hRLL2.1 hxG9 hRLL2.2.2.1 (by omega) (by omega)) (cwV 1 hts (kx_gV kq_18_xrows_8 kq_18_xrows_9 kq_18_xrows_10 kq_18_xrows_4 kq_18_xrows_11 rfl) rfl rfl rfl (by decide +kernel) ⟨Nat.le_of_ble_eq_true rfl, Nat.le_of_ble_eq_true rfl⟩) ⟨pPre_blind, va_recv hK hP (ci := 5) (q0 := 0) rfl rfl, pPre_give hP hK hG⟩ rfl rfl hl.1 rfl (lv_room (Nat.le_of_ble_eq_true rfl)) dX5_writeSeen_39 ⟨show cv + 0 ≤ 100 from (by omega), show sv + 0 ≤ 42000 from (by omega)⟩) hS (fun z_10 locs hq_9 hS => ?_)
          refine W.eq (g2 := F0 m 42 ls [.ref z_10.toNat, .ref (o 11)]) rfl ?_
          try dsimp only at hq_9
          obtain ⟨j11, hj11, ez11, hje11⟩ := hq_9
          subst ez11
          refine W.eq (g2 := F0 m 42 ls [.ref (Eo j11 0), .ref (o 11)]) rfl ?_
          have hP := eP_foc hj11 hP
          have hD := eD_foc hj11 hD
          refine va_getN (D := (dC, dI)) (ci := 0) (v := .ref (Eo j11 1)) (C := RX0) (T := TX0) (N := 12) hx hb hts kt_X0 hown hK hP 29 rfl rfl 2 (by decide) (va_Nw.use rfl (kx_nf hG kq_19_xouts_70)) (fun _ h9 => h9) rfl dX5_writeSeen_42 ?_
          have hxp_12 : 0 ≤ zL2 11 ∧ zL2 11 ≤ ((nL2 11 : Nat) : Int) ∧ (nL2 11 = 0 ∨ nL2 11 = 6000) := hRLL2.1.2.1 11 (by decide)
          have hxz_13 : -2147483648 ≤ zL2 23 ∧ zL2 23 < 2147483648 := hRLL2.1.2.2.2.1 23
          have hxb_14 : zL2 23 = 0 ∨ zL2 23 = 1 := hRLL2.1.2.2.2.2 23 (by decide)
          have he_15 : 0 ≤ Ez j11 0 ∧ Ez j11 0 ≤ ((En j11 0 : Nat) : Int) ∧ ((En j11 0 : Nat) : Int) ≤ 20 := (hRLL2.2.2.1 j11 hj11).1 0 (by decide)
          have hPc := hP.sub (ws' := ((pU cB (o 11) (rL2 11) (nL2 11) (zL2 11) (zL2 23) (FL2 11)) ++ (iU cI 20 (Eo j11 1) (Er j11 0) (En j11 0) (Ez j11 0) (EF j11 0)))) [27, 28, 30, 31] rfl
          have hDc := hD.sub (ws' := ((pU cB (o 11) (rL2 11) (nL2 11) (zL2 11) (zL2 23) (FL2 11)) ++ (iU cI 20 (Eo j11 1) (Er j11 0) (En j11 0) (Ez j11 0) (EF j11 0)))) [27, 28, 30, 31] (by decide) rfl
          have hFc := va_free (wc := ((pU cB (o 11) (rL2 11) (nL2 11) (zL2 11) (zL2 23) (FL2 11)) ++ (iU cI 20 (Eo j11 1) (Er j11 0) (En j11 0) (Ez j11 0) (EF j11 0)))) hD hS hA [27, 28, 30, 31] rfl
          refine xk_call (va_runV (As := [.ref (Eo j11 1)]) (rest := []) ⟨hx, hb, hml, hown, hts⟩ (x_putAll l dC dI cI cB cE (o 11) (rL2 11) (nL2 11) (zL2 11) (zL2 23) (FL2 11) 20 (Eo j11 1) (Er j11 0) (En j11 0) (Ez j11 0) (EF j11 0)  H.size (by omega) (by omega) (hRLL2.1.2.2.1 11) (by omega) ((hRLL2.2.2.1 j11 hj11).2.1 0)) (cwV 1 hts (kx_gV kq_19_xouts_71 kq_19_xouts_72 kq_19_xouts_73 kq_15_xspan_17 kq_19_xouts_74 rfl) rfl rfl rfl (by decide +kernel) ⟨Nat.le_of_ble_eq_true rfl, Nat.le_of_ble_eq_true rfl⟩) ⟨kx_blind, va_recv hK hPc (ci := 2) (q0 := 0) rfl rfl, kx_give (ws := []) (tys := []) hPc hDc hK hG hZ hS hFc⟩ rfl rfl hl.1 rfl (lv_room (Nat.le_of_ble_eq_true rfl)) dX5_writeSeen_45 ⟨show cv + 0 ≤ 100 from (by omega), show sv + 0 ≤ 42000 from (by omega)⟩) hS (fun q _ h => hFc q h) hFc (fun u dn_17 dm_18 t H locs ht hvm hq_16 hB hk1 hS => ?_)
          obtain ⟨z_19, tl_20, F_21⟩ := u
          obtain ⟨hP1, hK1, hD1⟩ := hB
          rw [ht] at hP1
          obtain ⟨hP, hD⟩ := xj_pool (wr := [(o 15, .inr (5, [.ref (o 16), .ref (Eo 0 0), .int (iz (zL2 12)), .int (iz (zL2 13)), .int (iz (zL2 14)), .ref (o 0), .ref (o 1), .int (iz (zL2 15)), .ref (o 13), .ref (o 14), .int (iz (zL2 16)), .ref (o 2), .ref (o 12), .ref (o 3), .ref (o 10), .ref (o 11)])), (o 16, .inl (cE, 80, .inr (.inr (.inr (.inr G))))), (o 0, .inr (1, [.int (iz 80), .ref (rL2 0), .int (iz (zL2 0))])), (rL2 0, .inl (cI, nL2 0, .inl (iA (FL2 0)))), (o 1, .inr (1, [.int (iz 80), .ref (rL2 1), .int (iz (zL2 1))])), (rL2 1, .inl (cI, nL2 1, .inl (iA (FL2 1)))), (o 2, .inr (1, [.int (iz 80), .ref (rL2 2), .int (iz (zL2 2))])), (rL2 2, .inl (cI, nL2 2, .inl (iA (FL2 2)))), (o 3, .inr (1, [.int (iz 80), .ref (rL2 3), .int (iz (zL2 3))])), (rL2 3, .inl (cI, nL2 3, .inl (iA (FL2 3)))), (o 13, .inr (3, [.ref (o 4), .ref (o 5), .ref (o 6)])), (o 4, .inr (1, [.int (iz 1600), .ref (rL2 4), .int (iz (zL2 4))])), (rL2 4, .inl (cI, nL2 4, .inl (iA (FL2 4)))), (o 5, .inr (1, [.int (iz 1600), .ref (rL2 5), .int (iz (zL2 5))])), (rL2 5, .inl (cI, nL2 5, .inl (iA (FL2 5)))), (o 6, .inr (1, [.int (iz 1600), .ref (rL2 6), .int (iz (zL2 6))])), (rL2 6, .inl (cI, nL2 6, .inl (iA (FL2 6)))), (o 14, .inr (3, [.ref (o 7), .ref (o 8), .ref (o 9)])), (o 7, .inr (1, [.int (iz 1600), .ref (rL2 7), .int (iz (zL2 7))])), (rL2 7, .inl (cI, nL2 7, .inl (iA (FL2 7)))), (o 8, .inr (1, [.int (iz 1600), .ref (rL2 8), .int (iz (zL2 8))])), (rL2 8, .inl (cI, nL2 8, .inl (iA (FL2 8)))), (o 9, .inr (1, [.int (iz 1600), .ref (rL2 9), .int (iz (zL2 9))])), (rL2 9, .inl (cI, nL2 9, .inl (iA (FL2 9)))), (o 12, .inr (4, [.int (iz (zL2 17)), .int (iz (zL2 18)), .int (iz (zL2 19)), .int (iz (zL2 20)), .int (iz (zL2 21))])), (o 10, .inr (2, [.ref (rL2 10), .int (iz (zL2 10)), .int (iz (zL2 22))])), (rL2 10, .inl (cB, nL2 10, .inl (iA (FL2 10)))), (Eo j11 0, .inr (0, [.int (iz (Ez j11 7)), .int (iz (Ez j11 8)), .ref (Eo j11 1), .ref (Eo j11 2), .ref (Eo j11 3), .ref (Eo j11 5), .ref (Eo j11 4), .int (iz (Ez j11 9)), .int (iz (Ez j11 10)), .int (iz (Ez j11 11)), .int (iz (Ez j11 12)), .int (iz (Ez j11 13))])), (Eo j11 2, .inr (1, [.int (iz 20), .ref (Er j11 1), .int (iz (Ez j11 1))])), (Er j11 1, .inl (cI, En j11 1, .inl (iA (EF j11 1)))), (Eo j11 3, .inr (1, [.int (iz 40), .ref (Er j11 2), .int (iz (Ez j11 2))])), (Er j11 2, .inl (cI, En j11 2, .inl (iA (EF j11 2)))), (Eo j11 4, .inr (1, [.int (iz 5), .ref (Er j11 3), .int (iz (Ez j11 3))])), (Er j11 3, .inl (cI, En j11 3, .inl (iA (EF j11 3)))), (Eo j11 5, .inr (3, [.ref (Eo j11 6), .ref (Eo j11 7), .ref (Eo j11 8)])), (Eo j11 6, .inr (1, [.int (iz 20), .ref (Er j11 4), .int (iz (Ez j11 4))])), (Er j11 4, .inl (cI, En j11 4, .inl (iA (EF j11 4)))), (Eo j11 7, .inr (1, [.int (iz 20), .ref (Er j11 5), .int (iz (Ez j11 5))])), (Er j11 5, .inl (cI, En j11 5, .inl (iA (EF j11 5)))), (Eo j11 8, .inr (1, [.int (iz 20), .ref (Er j11 6), .int (iz (Ez j11 6))])), (Er j11 6, .inl (cI, En j11 6, .inl (iA (EF j11 6))))]) (w1 := ((pU cB (o 11) (rL2 11) (nL2 11) z_19 tl_20 F_21) ++ (iU cI 20 (Eo j11 1) (Er j11 0) (En j11 0) (Ez j11 0) (EF j11 0)))) (ws' := ((xU cI cB cE o rL2 nL2 (va_up (va_up zL2 11 z_19) 23 tl_20) (va_up FL2 11 F_21) G (Eo 0 0)) ++ (eU cI (Eo j11) (Er j11) (En j11) (Ez j11) (EF j11)))) hP hD [27, 28, 30, 31] [0, 1, 2, 3, 4, 5, 6, 7, 8, 9, 10, 11, 12, 13, 14, 15, 16, 17, 18, 19, 20, 21, 22, 23, 24, 25, 26, 29, 32, 33, 34, 35, 36, 37, 38, 39, 40, 41, 42, 43, 44] [0, 1, 2, 3, 4, 5, 6, 7, 8, 9, 10, 11, 12, 13, 14, 15, 16, 17, 18, 19, 20, 21, 22, 23, 24, 25, 26, 41, 42, 27, 43, 44, 28, 29, 30, 31, 32, 33, 34, 35, 36, 37, 38, 39, 40] rfl rfl (by decide) (by decide) hk1 hFc hP1 hD1 rfl (by decide)
          refine W.eq (g2 := F0 m 48 ls []) rfl ?_
          try dsimp only at hq_16
          obtain ⟨hd22, hm22, hz22, ht22, hF22⟩ := hq_16
          subst hd22
          subst hm22
          refine lv_iinc (v := iz (k + 1)) (lv' := [(1, .int (iz (k + 1))), (0, .ref (o 15))]) hx hb dX5_writeSeen_48 hl (k := 0) rfl (iz_add k 1) (by decide) rfl (fun ls hl => ?_)
          refine lv_goto (tgt := 2) hx hb dX5_writeSeen_51 (by decide) ?_
          have hP := eP_un0 hj11 hP
          have hD := eD_un0 hj11 hD
          have hok23 : xOk (va_up nL2 11 (nL2 11)) (va_up (va_up zL2 11 z_19) 23 tl_20) (va_up FL2 11 F_21) := ((hRLL2.1.p 11 (by decide) (show 0 ≤ z_19 ∧ z_19 ≤ ((nL2 11 : Nat) : Int) ∧ (nL2 11 = 0 ∨ nL2 11 = 6000) by omega) hF22).s 23 (by decide) (show -2147483648 ≤ tl_20 ∧ tl_20 < 2147483648 by omega) (by omega))
          have hfr23 : xFr [11, 23] [11] z F (va_up (va_up zL2 11 z_19) 23 tl_20) (va_up FL2 11 F_21) := (((hRLL2.2.1.uz 11 (by decide) _).uz 23 (by decide) _).uf 11 (by decide) _)
          have hcg23 : (0) + xg (va_up nL2 11 (nL2 11)) ≤ xg nL2 := by unfold xg; simp (decide := true) only [va_ev, ↓reduceIte]; omega
          have hcp23 : (0) + xp (va_up nL2 11 (nL2 11)) ≤ xp nL2 := by unfold xp; simp (decide := true) only [va_ev, ↓reduceIte]; omega
          exact ih2 (k + 1) rL2 (va_up nL2 11 (nL2 11)) (va_up (va_up zL2 11 z_19) 23 tl_20) (va_up FL2 11 F_21) (cv + 0) (sv + 0) ⟨⟨hok23, hfr23, hRLL2.2.2.1, hRLL2.2.2.2⟩, ⟨by omega, by omega⟩, (show zL2 12 = z 12 by omega), by omega⟩ (by omega) _ _ hP hD hS ls (lv_sub hl [0, 1] rfl)
        · skip
          refine lv_aload_n hx hb dX5_writeSeen_17 rfl (lv_at hl 1 rfl) ?_
          refine va_get (D := (dC, dI)) (ci := 5) (v := .ref (o 11)) (C := RX5) (T := TX5) (N := 16) hx hb hts kt_X5 hown hK hP 0 rfl rfl 15 (by decide) (kx_word hG kq_19_xouts_60 rfl) (fun _ h9 => h9) rfl dX5_writeSeen_18 ?_
          refine lv_bipush (v := iz 59) hx hb dX5_writeSeen_21 (by decide) ?_
          have hxp_24 : 0 ≤ zL2 11 ∧ zL2 11 ≤ ((nL2 11 : Nat) : Int) ∧ (nL2 11 = 0 ∨ nL2 11 = 6000) := hRLL2.1.2.1 11 (by decide)
          have hxz_25 : -2147483648 ≤ zL2 23 ∧ zL2 23 < 2147483648 := hRLL2.1.2.2.2.1 23
          have hxb_26 : zL2 23 = 0 ∨ zL2 23 = 1 := hRLL2.1.2.2.2.2 23 (by decide)
          have hPc := hP.sub (ws' := (pU cB (o 11) (rL2 11) (nL2 11) (zL2 11) (zL2 23) (FL2 11))) [27, 28] rfl
          have hDc := hD.sub (ws' := (pU cB (o 11) (rL2 11) (nL2 11) (zL2 11) (zL2 23) (FL2 11))) [27, 28] (by decide) rfl
          have hFc := va_free (wc := (pU cB (o 11) (rL2 11) (nL2 11) (zL2 11) (zL2 23) (FL2 11))) hD hS hA [27, 28] rfl
          refine xk_call (va_runV (As := [.int (iz 59)]) (rest := []) ⟨hx, hb, hml, hown, hts⟩ (x_putBetween l dC dI cI cB cE (o 11) (rL2 11) (nL2 11) (zL2 11) (zL2 23) (FL2 11) 59 H.size (by omega) (by omega) (hRLL2.1.2.2.1 11) (by omega) (by omega)) (cwV 1 hts (kx_gV kq_19_xouts_66 kq_19_xouts_67 kq_19_xouts_68 kq_15_xspan_17 kq_19_xouts_69 rfl) rfl rfl rfl (by decide +kernel) ⟨Nat.le_of_ble_eq_true rfl, Nat.le_of_ble_eq_true rfl⟩) ⟨kx_blind, va_recv hK hPc (ci := 2) (q0 := 0) rfl rfl, kx_give (ws := []) (tys := []) hPc hDc hK hG hZ hS hFc⟩ rfl rfl hl.1 rfl (lv_room (Nat.le_of_ble_eq_true rfl)) dX5_writeSeen_23 ⟨show cv + 0 ≤ 100 from (by omega), show sv + 0 ≤ 42000 from (by omega)⟩) hS (fun q _ h => hFc q h) hFc (fun u dn_28 dm_29 t H locs ht hvm hq_27 hB hk1 hS => ?_)
          obtain ⟨z_30, tl_31, F_32⟩ := u
          obtain ⟨hP1, hK1, hD1⟩ := hB
          rw [ht] at hP1
          obtain ⟨hP, hD⟩ := xj_pool (wr := [(o 15, .inr (5, [.ref (o 16), .ref (Eo 0 0), .int (iz (zL2 12)), .int (iz (zL2 13)), .int (iz (zL2 14)), .ref (o 0), .ref (o 1), .int (iz (zL2 15)), .ref (o 13), .ref (o 14), .int (iz (zL2 16)), .ref (o 2), .ref (o 12), .ref (o 3), .ref (o 10), .ref (o 11)])), (o 16, .inl (cE, 80, .inr (.inr (.inr (.inr G))))), (o 0, .inr (1, [.int (iz 80), .ref (rL2 0), .int (iz (zL2 0))])), (rL2 0, .inl (cI, nL2 0, .inl (iA (FL2 0)))), (o 1, .inr (1, [.int (iz 80), .ref (rL2 1), .int (iz (zL2 1))])), (rL2 1, .inl (cI, nL2 1, .inl (iA (FL2 1)))), (o 2, .inr (1, [.int (iz 80), .ref (rL2 2), .int (iz (zL2 2))])), (rL2 2, .inl (cI, nL2 2, .inl (iA (FL2 2)))), (o 3, .inr (1, [.int (iz 80), .ref (rL2 3), .int (iz (zL2 3))])), (rL2 3, .inl (cI, nL2 3, .inl (iA (FL2 3)))), (o 13, .inr (3, [.ref (o 4), .ref (o 5), .ref (o 6)])), (o 4, .inr (1, [.int (iz 1600), .ref (rL2 4), .int (iz (zL2 4))])), (rL2 4, .inl (cI, nL2 4, .inl (iA (FL2 4)))), (o 5, .inr (1, [.int (iz 1600), .ref (rL2 5), .int (iz (zL2 5))])), (rL2 5, .inl (cI, nL2 5, .inl (iA (FL2 5)))), (o 6, .inr (1, [.int (iz 1600), .ref (rL2 6), .int (iz (zL2 6))])), (rL2 6, .inl (cI, nL2 6, .inl (iA (FL2 6)))), (o 14, .inr (3, [.ref (o 7), .ref (o 8), .ref (o 9)])), (o 7, .inr (1, [.int (iz 1600), .ref (rL2 7), .int (iz (zL2 7))])), (rL2 7, .inl (cI, nL2 7, .inl (iA (FL2 7)))), (o 8, .inr (1, [.int (iz 1600), .ref (rL2 8), .int (iz (zL2 8))])), (rL2 8, .inl (cI, nL2 8, .inl (iA (FL2 8)))), (o 9, .inr (1, [.int (iz 1600), .ref (rL2 9), .int (iz (zL2 9))])), (rL2 9, .inl (cI, nL2 9, .inl (iA (FL2 9)))), (o 12, .inr (4, [.int (iz (zL2 17)), .int (iz (zL2 18)), .int (iz (zL2 19)), .int (iz (zL2 20)), .int (iz (zL2 21))])), (o 10, .inr (2, [.ref (rL2 10), .int (iz (zL2 10)), .int (iz (zL2 22))])), (rL2 10, .inl (cB, nL2 10, .inl (iA (FL2 10))))]) (w1 := (pU cB (o 11) (rL2 11) (nL2 11) z_30 tl_31 F_32)) (ws' := (xU cI cB cE o rL2 nL2 (va_up (va_up zL2 11 z_30) 23 tl_31) (va_up FL2 11 F_32) G (Eo 0 0))) hP hD [27, 28] [0, 1, 2, 3, 4, 5, 6, 7, 8, 9, 10, 11, 12, 13, 14, 15, 16, 17, 18, 19, 20, 21, 22, 23, 24, 25, 26] [0, 1, 2, 3, 4, 5, 6, 7, 8, 9, 10, 11, 12, 13, 14, 15, 16, 17, 18, 19, 20, 21, 22, 23, 24, 25, 26, 27, 28] rfl rfl (by decide) (by decide) hk1 hFc hP1 hD1 rfl (by decide)
          refine W.eq (g2 := F0 m 26 ls []) rfl ?_
          try dsimp only at hq_27
          obtain ⟨hd33, hm33, hz33, ht33, hF33⟩ := hq_27
          subst hd33
          subst hm33
          refine lv_aload_n hx hb dX5_writeSeen_26 rfl (lv_at hl 1 rfl) ?_
          refine va_get (D := (dC, dI)) (ci := 5) (v := .ref (o 11)) (C := RX5) (T := TX5) (N := 16) hx hb hts kt_X5 hown hK hP 0 rfl rfl 15 (by decide) (kx_word hG kq_19_xouts_60 rfl) (fun _ h9 => h9) rfl dX5_writeSeen_27 ?_
          refine lv_aload_n hx hb dX5_writeSeen_30 rfl (lv_at hl 1 rfl) ?_
          refine lv_aload_n hx hb dX5_writeSeen_31 rfl (lv_at hl 1 rfl) ?_
          refine va_get (D := (dC, dI)) (ci := 5) (v := .ref (o 2)) (C := RX5) (T := TX5) (N := 16) hx hb hts kt_X5 hown hK hP 0 rfl rfl 11 (by decide) (kx_word hG kq_19_xouts_27 rfl) (fun _ h9 => h9) rfl dX5_writeSeen_32 ?_
          refine lv_iload_n hx hb dX5_writeSeen_35 rfl (lv_at hl 0 rfl) ?_
          have hPc := hP.sub (ws' := (iU cI 80 (o 2) (rL2 2) (nL2 2) (zL2 2) (FL2 2))) [6, 7] rfl
          refine xk_pure (va_runV (As := [.int (iz k)]) (rest := [.ref (o 15), .ref (o 11)]) ⟨hx, hb, hml, hown, hts⟩ (x_get l dC dI cI cB cE 80 (o 2) (rL2 2) (nL2 2) (zL2 2) (FL2 2) k H.size (by omega) (hRLL2.1.2.2.1 2) (by omega) (by omega)) (cwV 1 hts (kx_gV kq_18_xrows_41 kq_13_xints_4 kq_13_xints_5 kq_13_xints_6 kq_13_xints_7 rfl) rfl rfl rfl (by decide +kernel) ⟨Nat.le_of_ble_eq_true rfl, Nat.le_of_ble_eq_true rfl⟩) ⟨pPre_blind, va_recv hK hPc (ci := 1) (q0 := 0) rfl rfl, pPre_give hPc hK hG⟩ rfl rfl hl.1 rfl (lv_room (Nat.le_of_ble_eq_true rfl)) dX5_writeSeen_36 ⟨show (cv + 0) + 0 ≤ 100 from (by omega), show (sv + 0) + 0 ≤ 42000 from (by omega)⟩) hS (fun z_35 locs hq_34 hS => ?_)
          refine W.eq (g2 := F0 m 39 ls [.int (iz z_35), .ref (o 15), .ref (o 11)]) rfl ?_
          try dsimp only at hq_34
          have hok36 : xOk (va_up nL2 11 (nL2 11)) (va_up (va_up zL2 11 z_30) 23 tl_31) (va_up FL2 11 F_32) := ((hRLL2.1.p 11 (by decide) (show 0 ≤ z_30 ∧ z_30 ≤ ((nL2 11 : Nat) : Int) ∧ (nL2 11 = 0 ∨ nL2 11 = 6000) by omega) hF33).s 23 (by decide) (show -2147483648 ≤ tl_31 ∧ tl_31 < 2147483648 by omega) (by omega))
          have hfr36 : xFr [11, 23] [11] z F (va_up (va_up zL2 11 z_30) 23 tl_31) (va_up FL2 11 F_32) := (((hRLL2.2.1.uz 11 (by decide) _).uz 23 (by decide) _).uf 11 (by decide) _)
          have hcg36 : (0) + xg (va_up nL2 11 (nL2 11)) ≤ xg nL2 := by unfold xg; simp (decide := true) only [va_ev, ↓reduceIte]; omega
          have hcp36 : (0) + xp (va_up nL2 11 (nL2 11)) ≤ xp nL2 := by unfold xp; simp (decide := true) only [va_ev, ↓reduceIte]; omega
          have hxz_37 : -2147483648 ≤ zL2 12 ∧ zL2 12 < 2147483648 := hRLL2.1.2.2.2.1 12
          have hxG9 : xG N (zL2 12) G Eo := ⟨by omega, by omega, by omega, fun e9 h9 => hN4 e9 (by omega)⟩
          have hP : va_P (dC, dI) kxCl (xU cI cB cE o rL2 (va_up nL2 11 (nL2 11)) (va_up (va_up zL2 11 z_30) 23 tl_31) (va_up FL2 11 F_32) G (Eo 0 0) ++ eP cI N Eo Er En Ez EF) H := hP
          refine xk_pure (va_runV (As := [.int (iz z_35)]) (rest := [.ref (o 11)]) ⟨hx, hb, hml, hown, hts⟩ (y_known l dC dI cI cB cE o rL2 (va_up nL2 11 (nL2 11)) (va_up (va_up zL2 11 z_30) 23 tl_31) (va_up FL2 11 F_32) G N Eo Er En Ez EF z_35 H.size hok36 hxG9 hRLL2.2.2.1 (by omega) (by omega)) (cwV 1 hts (kx_gV kq_18_xrows_8 kq_18_xrows_9 kq_18_xrows_10 kq_18_xrows_4 kq_18_xrows_11 rfl) rfl rfl rfl (by decide +kernel) ⟨Nat.le_of_ble_eq_true rfl, Nat.le_of_ble_eq_true rfl⟩) ⟨pPre_blind, va_recv hK hP (ci := 5) (q0 := 0) rfl rfl, pPre_give hP hK hG⟩ rfl rfl hl.1 rfl (lv_room (Nat.le_of_ble_eq_true rfl)) dX5_writeSeen_39 ⟨show (cv + 0) + 0 ≤ 100 from (by omega), show (sv + 0) + 0 ≤ 42000 from (by omega)⟩) hS (fun z_39 locs hq_38 hS => ?_)
          refine W.eq (g2 := F0 m 42 ls [.ref z_39.toNat, .ref (o 11)]) rfl ?_
          try dsimp only at hq_38
          try simp (decide := true) only [va_ev, ↓reduceIte] at hq_38
          obtain ⟨j40, hj40, ez40, hje40⟩ := hq_38
          subst ez40
          refine W.eq (g2 := F0 m 42 ls [.ref (Eo j40 0), .ref (o 11)]) rfl ?_
          have hP := eP_foc hj40 hP
          have hD := eD_foc hj40 hD
          refine va_getN (D := (dC, dI)) (ci := 0) (v := .ref (Eo j40 1)) (C := RX0) (T := TX0) (N := 12) hx hb hts kt_X0 hown hK hP 29 rfl rfl 2 (by decide) (va_Nw.use rfl (kx_nf hG kq_19_xouts_70)) (fun _ h9 => h9) rfl dX5_writeSeen_42 ?_
          have he_41 : 0 ≤ Ez j40 0 ∧ Ez j40 0 ≤ ((En j40 0 : Nat) : Int) ∧ ((En j40 0 : Nat) : Int) ≤ 20 := (hRLL2.2.2.1 j40 hj40).1 0 (by decide)
          have hPc := hP.sub (ws' := ((pU cB (o 11) (rL2 11) (nL2 11) z_30 tl_31 F_32) ++ (iU cI 20 (Eo j40 1) (Er j40 0) (En j40 0) (Ez j40 0) (EF j40 0)))) [27, 28, 30, 31] rfl
          have hDc := hD.sub (ws' := ((pU cB (o 11) (rL2 11) (nL2 11) z_30 tl_31 F_32) ++ (iU cI 20 (Eo j40 1) (Er j40 0) (En j40 0) (Ez j40 0) (EF j40 0)))) [27, 28, 30, 31] (by decide) rfl
          have hFc := va_free (wc := ((pU cB (o 11) (rL2 11) (nL2 11) z_30 tl_31 F_32) ++ (iU cI 20 (Eo j40 1) (Er j40 0) (En j40 0) (Ez j40 0) (EF j40 0)))) hD hS hA [27, 28, 30, 31] rfl
          refine xk_call (va_runV (As := [.ref (Eo j40 1)]) (rest := []) ⟨hx, hb, hml, hown, hts⟩ (x_putAll l dC dI cI cB cE (o 11) (rL2 11) (nL2 11) z_30 tl_31 F_32 20 (Eo j40 1) (Er j40 0) (En j40 0) (Ez j40 0) (EF j40 0)  H.size (by omega) (by omega) hF33 (by omega) ((hRLL2.2.2.1 j40 hj40).2.1 0)) (cwV 1 hts (kx_gV kq_19_xouts_71 kq_19_xouts_72 kq_19_xouts_73 kq_15_xspan_17 kq_19_xouts_74 rfl) rfl rfl rfl (by decide +kernel) ⟨Nat.le_of_ble_eq_true rfl, Nat.le_of_ble_eq_true rfl⟩) ⟨kx_blind, va_recv hK hPc (ci := 2) (q0 := 0) rfl rfl, kx_give (ws := []) (tys := []) hPc hDc hK hG hZ hS hFc⟩ rfl rfl hl.1 rfl (lv_room (Nat.le_of_ble_eq_true rfl)) dX5_writeSeen_45 ⟨show (cv + 0) + 0 ≤ 100 from (by omega), show (sv + 0) + 0 ≤ 42000 from (by omega)⟩) hS (fun q _ h => hFc q h) hFc (fun u dn_43 dm_44 t H locs ht hvm hq_42 hB hk1 hS => ?_)
          obtain ⟨z_45, tl_46, F_47⟩ := u
          obtain ⟨hP1, hK1, hD1⟩ := hB
          rw [ht] at hP1
          obtain ⟨hP, hD⟩ := xj_pool (wr := [(o 15, .inr (5, [.ref (o 16), .ref (Eo 0 0), .int (iz (zL2 12)), .int (iz (zL2 13)), .int (iz (zL2 14)), .ref (o 0), .ref (o 1), .int (iz (zL2 15)), .ref (o 13), .ref (o 14), .int (iz (zL2 16)), .ref (o 2), .ref (o 12), .ref (o 3), .ref (o 10), .ref (o 11)])), (o 16, .inl (cE, 80, .inr (.inr (.inr (.inr G))))), (o 0, .inr (1, [.int (iz 80), .ref (rL2 0), .int (iz (zL2 0))])), (rL2 0, .inl (cI, nL2 0, .inl (iA (FL2 0)))), (o 1, .inr (1, [.int (iz 80), .ref (rL2 1), .int (iz (zL2 1))])), (rL2 1, .inl (cI, nL2 1, .inl (iA (FL2 1)))), (o 2, .inr (1, [.int (iz 80), .ref (rL2 2), .int (iz (zL2 2))])), (rL2 2, .inl (cI, nL2 2, .inl (iA (FL2 2)))), (o 3, .inr (1, [.int (iz 80), .ref (rL2 3), .int (iz (zL2 3))])), (rL2 3, .inl (cI, nL2 3, .inl (iA (FL2 3)))), (o 13, .inr (3, [.ref (o 4), .ref (o 5), .ref (o 6)])), (o 4, .inr (1, [.int (iz 1600), .ref (rL2 4), .int (iz (zL2 4))])), (rL2 4, .inl (cI, nL2 4, .inl (iA (FL2 4)))), (o 5, .inr (1, [.int (iz 1600), .ref (rL2 5), .int (iz (zL2 5))])), (rL2 5, .inl (cI, nL2 5, .inl (iA (FL2 5)))), (o 6, .inr (1, [.int (iz 1600), .ref (rL2 6), .int (iz (zL2 6))])), (rL2 6, .inl (cI, nL2 6, .inl (iA (FL2 6)))), (o 14, .inr (3, [.ref (o 7), .ref (o 8), .ref (o 9)])), (o 7, .inr (1, [.int (iz 1600), .ref (rL2 7), .int (iz (zL2 7))])), (rL2 7, .inl (cI, nL2 7, .inl (iA (FL2 7)))), (o 8, .inr (1, [.int (iz 1600), .ref (rL2 8), .int (iz (zL2 8))])), (rL2 8, .inl (cI, nL2 8, .inl (iA (FL2 8)))), (o 9, .inr (1, [.int (iz 1600), .ref (rL2 9), .int (iz (zL2 9))])), (rL2 9, .inl (cI, nL2 9, .inl (iA (FL2 9)))), (o 12, .inr (4, [.int (iz (zL2 17)), .int (iz (zL2 18)), .int (iz (zL2 19)), .int (iz (zL2 20)), .int (iz (zL2 21))])), (o 10, .inr (2, [.ref (rL2 10), .int (iz (zL2 10)), .int (iz (zL2 22))])), (rL2 10, .inl (cB, nL2 10, .inl (iA (FL2 10)))), (Eo j40 0, .inr (0, [.int (iz (Ez j40 7)), .int (iz (Ez j40 8)), .ref (Eo j40 1), .ref (Eo j40 2), .ref (Eo j40 3), .ref (Eo j40 5), .ref (Eo j40 4), .int (iz (Ez j40 9)), .int (iz (Ez j40 10)), .int (iz (Ez j40 11)), .int (iz (Ez j40 12)), .int (iz (Ez j40 13))])), (Eo j40 2, .inr (1, [.int (iz 20), .ref (Er j40 1), .int (iz (Ez j40 1))])), (Er j40 1, .inl (cI, En j40 1, .inl (iA (EF j40 1)))), (Eo j40 3, .inr (1, [.int (iz 40), .ref (Er j40 2), .int (iz (Ez j40 2))])), (Er j40 2, .inl (cI, En j40 2, .inl (iA (EF j40 2)))), (Eo j40 4, .inr (1, [.int (iz 5), .ref (Er j40 3), .int (iz (Ez j40 3))])), (Er j40 3, .inl (cI, En j40 3, .inl (iA (EF j40 3)))), (Eo j40 5, .inr (3, [.ref (Eo j40 6), .ref (Eo j40 7), .ref (Eo j40 8)])), (Eo j40 6, .inr (1, [.int (iz 20), .ref (Er j40 4), .int (iz (Ez j40 4))])), (Er j40 4, .inl (cI, En j40 4, .inl (iA (EF j40 4)))), (Eo j40 7, .inr (1, [.int (iz 20), .ref (Er j40 5), .int (iz (Ez j40 5))])), (Er j40 5, .inl (cI, En j40 5, .inl (iA (EF j40 5)))), (Eo j40 8, .inr (1, [.int (iz 20), .ref (Er j40 6), .int (iz (Ez j40 6))])), (Er j40 6, .inl (cI, En j40 6, .inl (iA (EF j40 6))))]) (w1 := ((pU cB (o 11) (rL2 11) (nL2 11) z_45 tl_46 F_47) ++ (iU cI 20 (Eo j40 1) (Er j40 0) (En j40 0) (Ez j40 0) (EF j40 0)))) (ws' := ((xU cI cB cE o rL2 (va_up nL2 11 (nL2 11)) (va_up (va_up zL2 11 z_45) 23 tl_46) (va_up FL2 11 F_47) G (Eo 0 0)) ++ (eU cI (Eo j40) (Er j40) (En j40) (Ez j40) (EF j40)))) hP hD [27, 28, 30, 31] [0, 1, 2, 3, 4, 5, 6, 7, 8, 9, 10, 11, 12, 13, 14, 15, 16, 17, 18, 19, 20, 21, 22, 23, 24, 25, 26, 29, 32, 33, 34, 35, 36, 37, 38, 39, 40, 41, 42, 43, 44] [0, 1, 2, 3, 4, 5, 6, 7, 8, 9, 10, 11, 12, 13, 14, 15, 16, 17, 18, 19, 20, 21, 22, 23, 24, 25, 26, 41, 42, 27, 43, 44, 28, 29, 30, 31, 32, 33, 34, 35, 36, 37, 38, 39, 40] rfl rfl (by decide) (by decide) hk1 hFc hP1 hD1 rfl (by decide)
          refine W.eq (g2 := F0 m 48 ls []) rfl ?_
          try dsimp only at hq_42
          obtain ⟨hd48, hm48, hz48, ht48, hF48⟩ := hq_42
          subst hd48
          subst hm48
          refine lv_iinc (v := iz (k + 1)) (lv' := [(1, .int (iz (k + 1))), (0, .ref (o 15))]) hx hb dX5_writeSeen_48 hl (k := 0) rfl (iz_add k 1) (by decide) rfl (fun ls hl => ?_)
          refine lv_goto (tgt := 2) hx hb dX5_writeSeen_51 (by decide) ?_
          have hP := eP_un0 hj40 hP
          have hD := eD_un0 hj40 hD
          have hok49 : xOk (va_up nL2 11 (nL2 11)) (va_up (va_up zL2 11 z_45) 23 tl_46) (va_up FL2 11 F_47) := ((hRLL2.1.p 11 (by decide) (show 0 ≤ z_45 ∧ z_45 ≤ ((nL2 11 : Nat) : Int) ∧ (nL2 11 = 0 ∨ nL2 11 = 6000) by omega) hF48).s 23 (by decide) (show -2147483648 ≤ tl_46 ∧ tl_46 < 2147483648 by omega) (by omega))
          have hfr49 : xFr [11, 23] [11] z F (va_up (va_up zL2 11 z_45) 23 tl_46) (va_up FL2 11 F_47) := (((hRLL2.2.1.uz 11 (by decide) _).uz 23 (by decide) _).uf 11 (by decide) _)
          have hcg49 : (0) + xg (va_up nL2 11 (nL2 11)) ≤ xg nL2 := by unfold xg; simp (decide := true) only [va_ev, ↓reduceIte]; omega
          have hcp49 : (0) + xp (va_up nL2 11 (nL2 11)) ≤ xp nL2 := by unfold xp; simp (decide := true) only [va_ev, ↓reduceIte]; omega
          exact ih2 (k + 1) rL2 (va_up nL2 11 (nL2 11)) (va_up (va_up zL2 11 z_45) 23 tl_46) (va_up FL2 11 F_47) ((cv + 0) + 0) ((sv + 0) + 0) ⟨⟨hok49, hfr49, hRLL2.2.2.1, hRLL2.2.2.2⟩, ⟨by omega, by omega⟩, (show zL2 12 = z 12 by omega), by omega⟩ (by omega) _ _ hP hD hS ls (lv_sub hl [0, 1] rfl)
  exact lp2 _ 0 r n z F 0 0 ⟨⟨hok, hfr, hPE, hef⟩, ⟨by omega, by omega⟩, (show z 12 = z 12 by omega), by omega⟩ (Nat.lt_succ_self _) _ _ hP hD hS ls (lv_sub hl [0, 1] rfl)
set_option maxHeartbeats 4000000 in
set_option maxRecDepth 100000 in
theorem y_writeMark (l : Launch) (dC : Nat → ClassId) (dI : Nat → Nat → Nat) (cI cB cE : ClassId) (o r n : Nat → Nat) (z : Nat → Int) (F : Nat → Int → Int) (G : Nat → Option Nat) (N : Nat) (Eo Er En : Nat → Nat → Nat) (Ez : Nat → Nat → Int) (EF : Nat → Nat → Int → Int) (p0 : Int) (p1 : Int) (p2 : Int) (p3 : Int) (sz : Nat) (hok : xOk n z F) (hxG : xG N (z 12) G Eo) (hPE : eA N En Ez EF) (hp01 : -2147483648 ≤ p0) (hp02 : p0 < 2147483648) (hp21 : -2147483648 ≤ p2) (hp22 : p2 < 2147483648) (hp31 : -2147483648 ≤ p3) (hp32 : p3 < 2147483648) (hp1 : p1 = 0 ∨ p1 = 1) : Met l yX5_writeMark [.code yX5_writeMark cX5_writeMark 5 none] ({ frames := 4, cells := 100, slots := 42000, locals := 89 }) (va_Pc [.ref (o 15), .int (iz p0), .int (iz p1), .int (iz p2), .int (iz p3)] (kx_Pre dC dI (xU cI cB cE o r n z F G (Eo 0 0) ++ eP cI N Eo Er En Ez EF) (xT cI cB cE) sz)) (xQ (fun _ : (Nat → Nat) × (Nat → Nat) × (Nat → Int) × (Nat → Int → Int) × (Nat → Nat → Nat) × (Nat → Nat → Nat) × (Nat → Nat → Int) × (Nat → Nat → Int → Int) => none) (fun (u : (Nat → Nat) × (Nat → Nat) × (Nat → Int) × (Nat → Int → Int) × (Nat → Nat → Nat) × (Nat → Nat → Nat) × (Nat → Nat → Int) × (Nat → Nat → Int → Int)) (dn dm : Nat) => match u with | (r', n', z', F', Er', En', Ez', EF') => xR [11, 23] [11] [] [] N z F En Ez EF n' z' F' En' Ez' EF' ∧ (dn + xg n' ≤ xg n + 0 ∧ dm + xp n' ≤ xp n + 0) ∧ (True)) (fun u t => kx_At dC dI (va_A (xU cI cB cE o r n z F G (Eo 0 0) ++ eP cI N Eo Er En Ez EF) sz) ((fun u : (Nat → Nat) × (Nat → Nat) × (Nat → Int) × (Nat → Int → Int) × (Nat → Nat → Nat) × (Nat → Nat → Nat) × (Nat → Nat → Int) × (Nat → Nat → Int → Int) => match u with | (r', n', z', F', Er', En', Ez', EF') => (xU cI cB cE o r' n' z' F' G (Eo 0 0) ++ eP cI N Eo Er' En' Ez' EF')) u) (xT cI cB cE) t) (va_A (xU cI cB cE o r n z F G (Eo 0 0) ++ eP cI N Eo Er En Ez EF) sz)) 100 42000 (va_A (xU cI cB cE o r n z F G (Eo 0 0) ++ eP cI N Eo Er En Ez EF) sz) := by
  refine Met.ofW (cc := cX5_writeMark) (maxL := 5) (ret := none) (by decide) rfl ?_
  intro p e s m args below meth c s₁ B hml hv
  obtain ⟨rfl, hsz, hP, hK, hD0, hG, hZ⟩ := hv
  have hx := B.exec
  have hb := B.bytes
  have hr := B.returns
  have hts := kx_hts (a := ([.ref (o 15), .int (iz p0), .int (iz p1), .int (iz p2), .int (iz p3)] : List Value).toArray) hG
  have hown : s.vm.findClass RX5 = some m.cls := findClass_of_methodNamed B.named
  have hlocks := B.notSynchronized
  subst hsz
  have hD := hD0.self (sz := s.heap.size)
  generalize hAe : va_A (xU cI cB cE o r n z F G (Eo 0 0) ++ eP cI N Eo Er En Ez EF) s.heap.size = A at hD hZ ⊢
  have hA : ∀ q : Nat, s.heap.size ≤ q → A q := fun q h => by rw [← hAe]; exact Or.inr h
  have hS : va_S A s.heap s.heap [] := va_S.rf
  have hl := lv_entry ([.ref (o 15), .int (iz p0), .int (iz p1), .int (iz p2), .int (iz p3)]) (n := 5) (Nat.le_of_ble_eq_true rfl)
  rw [lg_entry_eq]
  generalize (lg_sl ([.ref (o 15), .int (iz p0), .int (iz p1), .int (iz p2), .int (iz p3)]) ++ List.replicate (5 - (lg_sl ([.ref (o 15), .int (iz p0), .int (iz p1), .int (iz p2), .int (iz p3)])).length) Slot.unset).toArray = ls at hl ⊢
  obtain ⟨hN1, hN2, hN3, hN4⟩ := hxG
  have hef : eFr [] [] En Ez EF En Ez EF := eFr.rf
  have hfr : xFr [11, 23] [11] z F z F := xFr.rf
  have hxgl := xg_le n
  have hxpl := xp_le n
  have hl : lv_has ls 5 [(0, .ref (o 15)), (1, .int (iz p0)), (2, .int (iz p1)), (3, .int (iz p2)), (4, .int (iz p3))] := hl
  refine lv_iload_n hx hb dX5_writeMark_0 rfl (lv_at hl 1 rfl) ?_
  refine lv_bipush (v := iz 37) hx hb dX5_writeMark_1 (by decide) ?_
  refine ki_icmp_ne (tgt := 18) hx hb dX5_writeMark_3 (by decide) (by omega) (by omega) (by omega) (by omega) (fun c_1 => ?_) (fun c_1 => ?_)
  · skip
    refine lv_iload_n hx hb dX5_writeMark_18 rfl (lv_at hl 1 rfl) ?_
    refine lv_bipush (v := iz 110) hx hb dX5_writeMark_19 (by decide) ?_
    refine ki_icmp_ne (tgt := 36) hx hb dX5_writeMark_21 (by decide) (by omega) (by omega) (by omega) (by omega) (fun c_2 => ?_) (fun c_2 => ?_)
    · skip
      refine lv_iload_n hx hb dX5_writeMark_36 rfl (lv_at hl 1 rfl) ?_
      refine lv_bipush (v := iz 103) hx hb dX5_writeMark_37 (by decide) ?_
      refine ki_icmp_ne (tgt := 69) hx hb dX5_writeMark_39 (by decide) (by omega) (by omega) (by omega) (by omega) (fun c_3 => ?_) (fun c_3 => ?_)
      · skip
        refine lv_iload_n hx hb dX5_writeMark_69 rfl (lv_at hl 1 rfl) ?_
        refine lv_bipush (v := iz 119) hx hb dX5_writeMark_70 (by decide) ?_
        refine ki_icmp_ne (tgt := 97) hx hb dX5_writeMark_72 (by decide) (by omega) (by omega) (by omega) (by omega) (fun c_4 => ?_) (fun c_4 => ?_)
        · skip
          refine lv_iload_n hx hb dX5_writeMark_97 rfl (lv_at hl 1 rfl) ?_
          refine lv_bipush (v := iz 112) hx hb dX5_writeMark_98 (by decide) ?_
          refine ki_icmp_ne (tgt := 114) hx hb dX5_writeMark_100 (by decide) (by omega) (by omega) (by omega) (by omega) (fun c_5 => ?_) (fun c_5 => ?_)
          · skip
            refine lv_iload_n hx hb dX5_writeMark_114 rfl (lv_at hl 1 rfl) ?_
            refine lv_bipush (v := iz 115) hx hb dX5_writeMark_115 (by decide) ?_
            refine ki_icmp_ne (tgt := 128) hx hb dX5_writeMark_117 (by decide) (by omega) (by omega) (by omega) (by omega) (fun c_6 => ?_) (fun c_6 => ?_)
            · skip
              exact xk_vret (ov := (fun _ : (Nat → Nat) × (Nat → Nat) × (Nat → Int) × (Nat → Int → Int) × (Nat → Nat → Nat) × (Nat → Nat → Nat) × (Nat → Nat → Int) × (Nat → Nat → Int → Int) => none)) (post := (fun (u : (Nat → Nat) × (Nat → Nat) × (Nat → Int) × (Nat → Int → Int) × (Nat → Nat → Nat) × (Nat → Nat → Nat) × (Nat → Nat → Int) × (Nat → Nat → Int → Int)) (dn dm : Nat) => match u with | (r', n', z', F', Er', En', Ez', EF') => xR [11, 23] [11] [] [] N z F En Ez EF n' z' F' En' Ez' EF' ∧ (dn + xg n' ≤ xg n + 0 ∧ dm + xp n' ≤ xp n + 0) ∧ (True))) (ws := (fun u : (Nat → Nat) × (Nat → Nat) × (Nat → Int) × (Nat → Int → Int) × (Nat → Nat → Nat) × (Nat → Nat → Nat) × (Nat → Nat → Int) × (Nat → Nat → Int → Int) => match u with | (r', n', z', F', Er', En', Ez', EF') => (xU cI cB cE o r' n' z' F' G (Eo 0 0) ++ eP cI N Eo Er' En' Ez' EF'))) (tys := xT cI cB cE) (r, n, z, F, Er, En, Ez, EF) hx hb hr hlocks rfl hP hD hK hS dX5_writeMark_128 (fun dn dm hdn hdm => ⟨⟨hok, hfr, hPE, hef⟩, ⟨by omega, by omega⟩, trivial⟩) (by omega) (by omega)
            · skip
              refine lv_iload_n hx hb dX5_writeMark_120 rfl (lv_at hl 2 rfl) ?_
              refine ki_if_eq (tgt := 128) hx hb dX5_writeMark_121 (by decide) (by omega) (by omega) (fun c_7 => ?_) (fun c_7 => ?_)
              · skip
                exact xk_vret (ov := (fun _ : (Nat → Nat) × (Nat → Nat) × (Nat → Int) × (Nat → Int → Int) × (Nat → Nat → Nat) × (Nat → Nat → Nat) × (Nat → Nat → Int) × (Nat → Nat → Int → Int) => none)) (post := (fun (u : (Nat → Nat) × (Nat → Nat) × (Nat → Int) × (Nat → Int → Int) × (Nat → Nat → Nat) × (Nat → Nat → Nat) × (Nat → Nat → Int) × (Nat → Nat → Int → Int)) (dn dm : Nat) => match u with | (r', n', z', F', Er', En', Ez', EF') => xR [11, 23] [11] [] [] N z F En Ez EF n' z' F' En' Ez' EF' ∧ (dn + xg n' ≤ xg n + 0 ∧ dm + xp n' ≤ xp n + 0) ∧ (True))) (ws := (fun u : (Nat → Nat) × (Nat → Nat) × (Nat → Int) × (Nat → Int → Int) × (Nat → Nat → Nat) × (Nat → Nat → Nat) × (Nat → Nat → Int) × (Nat → Nat → Int → Int) => match u with | (r', n', z', F', Er', En', Ez', EF') => (xU cI cB cE o r' n' z' F' G (Eo 0 0) ++ eP cI N Eo Er' En' Ez' EF'))) (tys := xT cI cB cE) (r, n, z, F, Er, En, Ez, EF) hx hb hr hlocks rfl hP hD hK hS dX5_writeMark_128 (fun dn dm hdn hdm => ⟨⟨hok, hfr, hPE, hef⟩, ⟨by omega, by omega⟩, trivial⟩) (by omega) (by omega)
              · skip
                refine lv_aload_n hx hb dX5_writeMark_124 rfl (lv_at hl 0 rfl) ?_
                have hxz_8 : -2147483648 ≤ z 12 ∧ z 12 < 2147483648 := hok.2.2.2.1 12
                have hxG9 : xG N (z 12) G Eo := ⟨by omega, by omega, by omega, fun e9 h9 => hN4 e9 (by omega)⟩
                have hP : va_P (dC, dI) kxCl (xU cI cB cE o r n z F G (Eo 0 0) ++ eP cI N Eo Er En Ez EF) s.heap := hP
                have hD : va_D A (xU cI cB cE o r n z F G (Eo 0 0) ++ eP cI N Eo Er En Ez EF) := hD
                have hFc := xw_free hD hS hA
                refine xk_call (va_runV (As := []) (rest := []) ⟨hx, hb, hml, hown, hts⟩ (y_writeSeen l dC dI cI cB cE o r n z F G N Eo Er En Ez EF  s.heap.size hok hxG9 hPE ) (cwV 0 hts (kx_gV kq_19_xouts_75 kq_19_xouts_76 kq_19_xouts_77 kq_18_xrows_4 kq_19_xouts_78 rfl) rfl rfl rfl (by decide +kernel) ⟨Nat.le_of_ble_eq_true rfl, Nat.le_of_ble_eq_true rfl⟩) ⟨kx_blind, va_recv hK hP (ci := 5) (q0 := 0) rfl rfl, kx_give (ws := []) (tys := []) hP hD hK hG hZ hS hFc⟩ rfl rfl hl.1 rfl (lv_room (Nat.le_of_ble_eq_true rfl)) dX5_writeMark_125 ⟨show 0 + 100 ≤ 100 from (by omega), show 0 + 42000 ≤ 42000 from (by omega)⟩) hS (fun q _ h => hFc q h) hFc (fun u dn_11 dm_12 t H locs ht hvm hq_9 hB hk1 hS => ?_)
                obtain ⟨r_13, n_14, z_15, F_16, Er_17, En_18, Ez_19, EF_20⟩ := u
                obtain ⟨hP, hK1, hD1⟩ := hB
                rw [ht] at hP
                have hD := hD1.weaken (fun _ q _ h => hFc _ h)
                obtain ⟨hR21, hC21, hq_9⟩ := hq_9
                have hok21 := hR21.1
                have hfr21 := hfr.tr (hR21.2.1.mono (S' := [11, 23]) (T' := [11]) (by decide) (by decide))
                have hPE21 := hR21.2.2.1
                have hef21 := hef.tr (hR21.2.2.2.mono (S' := []) (T' := []) (by decide) (by decide))
                have hz21 : z_15 12 = (z 12) := hR21.2.1.1 12 (by decide)
                refine W.eq (g2 := F0 m 128 ls []) rfl ?_
                try dsimp only at hq_9
                exact xk_vret (ov := (fun _ : (Nat → Nat) × (Nat → Nat) × (Nat → Int) × (Nat → Int → Int) × (Nat → Nat → Nat) × (Nat → Nat → Nat) × (Nat → Nat → Int) × (Nat → Nat → Int → Int) => none)) (post := (fun (u : (Nat → Nat) × (Nat → Nat) × (Nat → Int) × (Nat → Int → Int) × (Nat → Nat → Nat) × (Nat → Nat → Nat) × (Nat → Nat → Int) × (Nat → Nat → Int → Int)) (dn dm : Nat) => match u with | (r', n', z', F', Er', En', Ez', EF') => xR [11, 23] [11] [] [] N z F En Ez EF n' z' F' En' Ez' EF' ∧ (dn + xg n' ≤ xg n + 0 ∧ dm + xp n' ≤ xp n + 0) ∧ (True))) (ws := (fun u : (Nat → Nat) × (Nat → Nat) × (Nat → Int) × (Nat → Int → Int) × (Nat → Nat → Nat) × (Nat → Nat → Nat) × (Nat → Nat → Int) × (Nat → Nat → Int → Int) => match u with | (r', n', z', F', Er', En', Ez', EF') => (xU cI cB cE o r' n' z' F' G (Eo 0 0) ++ eP cI N Eo Er' En' Ez' EF'))) (tys := xT cI cB cE) (r_13, n_14, z_15, F_16, Er_17, En_18, Ez_19, EF_20) hx hb hr hlocks rfl hP hD hK hS dX5_writeMark_128 (fun dn dm hdn hdm => ⟨⟨hok21, hfr21, hPE21, hef21⟩, ⟨by omega, by omega⟩, trivial⟩) (by omega) (by omega)
          · skip
            refine lv_iload_n hx hb dX5_writeMark_103 rfl (lv_at hl 2 rfl) ?_
            refine ki_if_eq (tgt := 114) hx hb dX5_writeMark_104 (by decide) (by omega) (by omega) (fun c_22 => ?_) (fun c_22 => ?_)
            · skip
              refine lv_iload_n hx hb dX5_writeMark_114 rfl (lv_at hl 1 rfl) ?_
              refine lv_bipush (v := iz 115) hx hb dX5_writeMark_115 (by decide) ?_
              refine ki_icmp_ne (tgt := 128) hx hb dX5_writeMark_117 (by decide) (by omega) (by omega) (by omega) (by omega) (fun c_23 => ?_) (fun c_23 => ?_)
              · skip
                exact xk_vret (ov := (fun _ : (Nat → Nat) × (Nat → Nat) × (Nat → Int) × (Nat → Int → Int) × (Nat → Nat → Nat) × (Nat → Nat → Nat) × (Nat → Nat → Int) × (Nat → Nat → Int → Int) => none)) (post := (fun (u : (Nat → Nat) × (Nat → Nat) × (Nat → Int) × (Nat → Int → Int) × (Nat → Nat → Nat) × (Nat → Nat → Nat) × (Nat → Nat → Int) × (Nat → Nat → Int → Int)) (dn dm : Nat) => match u with | (r', n', z', F', Er', En', Ez', EF') => xR [11, 23] [11] [] [] N z F En Ez EF n' z' F' En' Ez' EF' ∧ (dn + xg n' ≤ xg n + 0 ∧ dm + xp n' ≤ xp n + 0) ∧ (True))) (ws := (fun u : (Nat → Nat) × (Nat → Nat) × (Nat → Int) × (Nat → Int → Int) × (Nat → Nat → Nat) × (Nat → Nat → Nat) × (Nat → Nat → Int) × (Nat → Nat → Int → Int) => match u with | (r', n', z', F', Er', En', Ez', EF') => (xU cI cB cE o r' n' z' F' G (Eo 0 0) ++ eP cI N Eo Er' En' Ez' EF'))) (tys := xT cI cB cE) (r, n, z, F, Er, En, Ez, EF) hx hb hr hlocks rfl hP hD hK hS dX5_writeMark_128 (fun dn dm hdn hdm => ⟨⟨hok, hfr, hPE, hef⟩, ⟨by omega, by omega⟩, trivial⟩) (by omega) (by omega)
              · omega
            · skip
              refine lv_aload_n hx hb dX5_writeMark_107 rfl (lv_at hl 0 rfl) ?_
              have hxz_24 : -2147483648 ≤ z 12 ∧ z 12 < 2147483648 := hok.2.2.2.1 12
              have hxG9 : xG N (z 12) G Eo := ⟨by omega, by omega, by omega, fun e9 h9 => hN4 e9 (by omega)⟩
              have hP : va_P (dC, dI) kxCl (xU cI cB cE o r n z F G (Eo 0 0) ++ eP cI N Eo Er En Ez EF) s.heap := hP
              have hD : va_D A (xU cI cB cE o r n z F G (Eo 0 0) ++ eP cI N Eo Er En Ez EF) := hD
              have hFc := xw_free hD hS hA
              refine xk_call (va_runV (As := []) (rest := []) ⟨hx, hb, hml, hown, hts⟩ (y_writeLocators l dC dI cI cB cE o r n z F G N Eo Er En Ez EF  s.heap.size hok hxG9 hPE ) (cwV 0 hts (kx_gV kq_19_xouts_79 kq_19_xouts_80 kq_19_xouts_81 kq_18_xrows_4 kq_19_xouts_82 rfl) rfl rfl rfl (by decide +kernel) ⟨Nat.le_of_ble_eq_true rfl, Nat.le_of_ble_eq_true rfl⟩) ⟨kx_blind, va_recv hK hP (ci := 5) (q0 := 0) rfl rfl, kx_give (ws := []) (tys := []) hP hD hK hG hZ hS hFc⟩ rfl rfl hl.1 rfl (lv_room (Nat.le_of_ble_eq_true rfl)) dX5_writeMark_108 ⟨show 0 + 100 ≤ 100 from (by omega), show 0 + 42000 ≤ 42000 from (by omega)⟩) hS (fun q _ h => hFc q h) hFc (fun u dn_27 dm_28 t H locs ht hvm hq_25 hB hk1 hS => ?_)
              obtain ⟨r_29, n_30, z_31, F_32, Er_33, En_34, Ez_35, EF_36⟩ := u
              obtain ⟨hP, hK1, hD1⟩ := hB
              rw [ht] at hP
              have hD := hD1.weaken (fun _ q _ h => hFc _ h)
              obtain ⟨hR37, hC37, hq_25⟩ := hq_25
              have hok37 := hR37.1
              have hfr37 := hfr.tr (hR37.2.1.mono (S' := [11, 23]) (T' := [11]) (by decide) (by decide))
              have hPE37 := hR37.2.2.1
              have hef37 := hef.tr (hR37.2.2.2.mono (S' := []) (T' := []) (by decide) (by decide))
              have hz37 : z_31 12 = (z 12) := hR37.2.1.1 12 (by decide)
              refine W.eq (g2 := F0 m 111 ls []) rfl ?_
              try dsimp only at hq_25
              refine lv_goto (tgt := 128) hx hb dX5_writeMark_111 (by decide) ?_
              exact xk_vret (ov := (fun _ : (Nat → Nat) × (Nat → Nat) × (Nat → Int) × (Nat → Int → Int) × (Nat → Nat → Nat) × (Nat → Nat → Nat) × (Nat → Nat → Int) × (Nat → Nat → Int → Int) => none)) (post := (fun (u : (Nat → Nat) × (Nat → Nat) × (Nat → Int) × (Nat → Int → Int) × (Nat → Nat → Nat) × (Nat → Nat → Nat) × (Nat → Nat → Int) × (Nat → Nat → Int → Int)) (dn dm : Nat) => match u with | (r', n', z', F', Er', En', Ez', EF') => xR [11, 23] [11] [] [] N z F En Ez EF n' z' F' En' Ez' EF' ∧ (dn + xg n' ≤ xg n + 0 ∧ dm + xp n' ≤ xp n + 0) ∧ (True))) (ws := (fun u : (Nat → Nat) × (Nat → Nat) × (Nat → Int) × (Nat → Int → Int) × (Nat → Nat → Nat) × (Nat → Nat → Nat) × (Nat → Nat → Int) × (Nat → Nat → Int → Int) => match u with | (r', n', z', F', Er', En', Ez', EF') => (xU cI cB cE o r' n' z' F' G (Eo 0 0) ++ eP cI N Eo Er' En' Ez' EF'))) (tys := xT cI cB cE) (r_29, n_30, z_31, F_32, Er_33, En_34, Ez_35, EF_36) hx hb hr hlocks rfl hP hD hK hS dX5_writeMark_128 (fun dn dm hdn hdm => ⟨⟨hok37, hfr37, hPE37, hef37⟩, ⟨by omega, by omega⟩, trivial⟩) (by omega) (by omega)
        · skip
          refine lv_iload_n hx hb dX5_writeMark_75 rfl (lv_at hl 2 rfl) ?_
          refine ki_if_eq (tgt := 97) hx hb dX5_writeMark_76 (by decide) (by omega) (by omega) (fun c_38 => ?_) (fun c_38 => ?_)
          · skip
            refine lv_iload_n hx hb dX5_writeMark_97 rfl (lv_at hl 1 rfl) ?_
            refine lv_bipush (v := iz 112) hx hb dX5_writeMark_98 (by decide) ?_
            refine ki_icmp_ne (tgt := 114) hx hb dX5_writeMark_100 (by decide) (by omega) (by omega) (by omega) (by omega) (fun c_39 => ?_) (fun c_39 => ?_)
            · skip
              refine lv_iload_n hx hb dX5_writeMark_114 rfl (lv_at hl 1 rfl) ?_
              refine lv_bipush (v := iz 115) hx hb dX5_writeMark_115 (by decide) ?_
              refine ki_icmp_ne (tgt := 128) hx hb dX5_writeMark_117 (by decide) (by omega) (by omega) (by omega) (by omega) (fun c_40 => ?_) (fun c_40 => ?_)
              · skip
                exact xk_vret (ov := (fun _ : (Nat → Nat) × (Nat → Nat) × (Nat → Int) × (Nat → Int → Int) × (Nat → Nat → Nat) × (Nat → Nat → Nat) × (Nat → Nat → Int) × (Nat → Nat → Int → Int) => none)) (post := (fun (u : (Nat → Nat) × (Nat → Nat) × (Nat → Int) × (Nat → Int → Int) × (Nat → Nat → Nat) × (Nat → Nat → Nat) × (Nat → Nat → Int) × (Nat → Nat → Int → Int)) (dn dm : Nat) => match u with | (r', n', z', F', Er', En', Ez', EF') => xR [11, 23] [11] [] [] N z F En Ez EF n' z' F' En' Ez' EF' ∧ (dn + xg n' ≤ xg n + 0 ∧ dm + xp n' ≤ xp n + 0) ∧ (True))) (ws := (fun u : (Nat → Nat) × (Nat → Nat) × (Nat → Int) × (Nat → Int → Int) × (Nat → Nat → Nat) × (Nat → Nat → Nat) × (Nat → Nat → Int) × (Nat → Nat → Int → Int) => match u with | (r', n', z', F', Er', En', Ez', EF') => (xU cI cB cE o r' n' z' F' G (Eo 0 0) ++ eP cI N Eo Er' En' Ez' EF'))) (tys := xT cI cB cE) (r, n, z, F, Er, En, Ez, EF) hx hb hr hlocks rfl hP hD hK hS dX5_writeMark_128 (fun dn dm hdn hdm => ⟨⟨hok, hfr, hPE, hef⟩, ⟨by omega, by omega⟩, trivial⟩) (by omega) (by omega)
              · omega
            · omega
          · skip
            refine lv_aload_n hx hb dX5_writeMark_79 rfl (lv_at hl 0 rfl) ?_
            refine va_get (D := (dC, dI)) (ci := 5) (v := .ref (o 11)) (C := RX5) (T := TX5) (N := 16) hx hb hts kt_X5 hown hK hP 0 rfl rfl 15 (by decide) (kx_word hG kq_19_xouts_60 rfl) (fun _ h9 => h9) rfl dX5_writeMark_80 ?_
            refine lv_aload_n hx hb dX5_writeMark_83 rfl (lv_at hl 0 rfl) ?_
            refine lv_iload_n hx hb dX5_writeMark_84 rfl (lv_at hl 3 rfl) ?_
            have hxz_41 : -2147483648 ≤ z 12 ∧ z 12 < 2147483648 := hok.2.2.2.1 12
            have hxG9 : xG N (z 12) G Eo := ⟨by omega, by omega, by omega, fun e9 h9 => hN4 e9 (by omega)⟩
            have hP : va_P (dC, dI) kxCl (xU cI cB cE o r n z F G (Eo 0 0) ++ eP cI N Eo Er En Ez EF) s.heap := hP
            refine xk_pure (va_runV (As := [.int (iz p2)]) (rest := [.ref (o 11)]) ⟨hx, hb, hml, hown, hts⟩ (y_known l dC dI cI cB cE o r n z F G N Eo Er En Ez EF p2 s.heap.size hok hxG9 hPE (by omega) (by omega)) (cwV 1 hts (kx_gV kq_18_xrows_8 kq_18_xrows_9 kq_18_xrows_10 kq_18_xrows_4 kq_18_xrows_11 rfl) rfl rfl rfl (by decide +kernel) ⟨Nat.le_of_ble_eq_true rfl, Nat.le_of_ble_eq_true rfl⟩) ⟨pPre_blind, va_recv hK hP (ci := 5) (q0 := 0) rfl rfl, pPre_give hP hK hG⟩ rfl rfl hl.1 rfl (lv_room (Nat.le_of_ble_eq_true rfl)) dX5_writeMark_85 ⟨show 0 + 0 ≤ 100 from (by omega), show 0 + 0 ≤ 42000 from (by omega)⟩) hS (fun z_43 locs hq_42 hS => ?_)
            refine W.eq (g2 := F0 m 88 ls [.ref z_43.toNat, .ref (o 11)]) rfl ?_
            try dsimp only at hq_42
            obtain ⟨j44, hj44, ez44, hje44⟩ := hq_42
            subst ez44
            refine W.eq (g2 := F0 m 88 ls [.ref (Eo j44 0), .ref (o 11)]) rfl ?_
            have hP := eP_foc hj44 hP
            have hD := eD_foc hj44 hD
            refine va_getN (D := (dC, dI)) (ci := 0) (v := .ref (Eo j44 1)) (C := RX0) (T := TX0) (N := 12) hx hb hts kt_X0 hown hK hP 29 rfl rfl 2 (by decide) (va_Nw.use rfl (kx_nf hG kq_19_xouts_70)) (fun _ h9 => h9) rfl dX5_writeMark_88 ?_
            have hxp_45 : 0 ≤ z 11 ∧ z 11 ≤ ((n 11 : Nat) : Int) ∧ (n 11 = 0 ∨ n 11 = 6000) := hok.2.1 11 (by decide)
            have hxz_46 : -2147483648 ≤ z 23 ∧ z 23 < 2147483648 := hok.2.2.2.1 23
            have hxb_47 : z 23 = 0 ∨ z 23 = 1 := hok.2.2.2.2 23 (by decide)
            have he_48 : 0 ≤ Ez j44 0 ∧ Ez j44 0 ≤ ((En j44 0 : Nat) : Int) ∧ ((En j44 0 : Nat) : Int) ≤ 20 := (hPE j44 hj44).1 0 (by decide)
            have hPc := hP.sub (ws' := ((pU cB (o 11) (r 11) (n 11) (z 11) (z 23) (F 11)) ++ (iU cI 20 (Eo j44 1) (Er j44 0) (En j44 0) (Ez j44 0) (EF j44 0)))) [27, 28, 30, 31] rfl
            have hDc := hD.sub (ws' := ((pU cB (o 11) (r 11) (n 11) (z 11) (z 23) (F 11)) ++ (iU cI 20 (Eo j44 1) (Er j44 0) (En j44 0) (Ez j44 0) (EF j44 0)))) [27, 28, 30, 31] (by decide) rfl
            have hFc := va_free (wc := ((pU cB (o 11) (r 11) (n 11) (z 11) (z 23) (F 11)) ++ (iU cI 20 (Eo j44 1) (Er j44 0) (En j44 0) (Ez j44 0) (EF j44 0)))) hD hS hA [27, 28, 30, 31] rfl
            refine xk_call (va_runV (As := [.ref (Eo j44 1)]) (rest := []) ⟨hx, hb, hml, hown, hts⟩ (x_putAll l dC dI cI cB cE (o 11) (r 11) (n 11) (z 11) (z 23) (F 11) 20 (Eo j44 1) (Er j44 0) (En j44 0) (Ez j44 0) (EF j44 0)  s.heap.size (by omega) (by omega) (hok.2.2.1 11) (by omega) ((hPE j44 hj44).2.1 0)) (cwV 1 hts (kx_gV kq_19_xouts_71 kq_19_xouts_72 kq_19_xouts_73 kq_15_xspan_17 kq_19_xouts_74 rfl) rfl rfl rfl (by decide +kernel) ⟨Nat.le_of_ble_eq_true rfl, Nat.le_of_ble_eq_true rfl⟩) ⟨kx_blind, va_recv hK hPc (ci := 2) (q0 := 0) rfl rfl, kx_give (ws := []) (tys := []) hPc hDc hK hG hZ hS hFc⟩ rfl rfl hl.1 rfl (lv_room (Nat.le_of_ble_eq_true rfl)) dX5_writeMark_91 ⟨show 0 + 0 ≤ 100 from (by omega), show 0 + 0 ≤ 42000 from (by omega)⟩) hS (fun q _ h => hFc q h) hFc (fun u dn_50 dm_51 t H locs ht hvm hq_49 hB hk1 hS => ?_)
            obtain ⟨z_52, tl_53, F_54⟩ := u
            obtain ⟨hP1, hK1, hD1⟩ := hB
            rw [ht] at hP1
            obtain ⟨hP, hD⟩ := xj_pool (wr := [(o 15, .inr (5, [.ref (o 16), .ref (Eo 0 0), .int (iz (z 12)), .int (iz (z 13)), .int (iz (z 14)), .ref (o 0), .ref (o 1), .int (iz (z 15)), .ref (o 13), .ref (o 14), .int (iz (z 16)), .ref (o 2), .ref (o 12), .ref (o 3), .ref (o 10), .ref (o 11)])), (o 16, .inl (cE, 80, .inr (.inr (.inr (.inr G))))), (o 0, .inr (1, [.int (iz 80), .ref (r 0), .int (iz (z 0))])), (r 0, .inl (cI, n 0, .inl (iA (F 0)))), (o 1, .inr (1, [.int (iz 80), .ref (r 1), .int (iz (z 1))])), (r 1, .inl (cI, n 1, .inl (iA (F 1)))), (o 2, .inr (1, [.int (iz 80), .ref (r 2), .int (iz (z 2))])), (r 2, .inl (cI, n 2, .inl (iA (F 2)))), (o 3, .inr (1, [.int (iz 80), .ref (r 3), .int (iz (z 3))])), (r 3, .inl (cI, n 3, .inl (iA (F 3)))), (o 13, .inr (3, [.ref (o 4), .ref (o 5), .ref (o 6)])), (o 4, .inr (1, [.int (iz 1600), .ref (r 4), .int (iz (z 4))])), (r 4, .inl (cI, n 4, .inl (iA (F 4)))), (o 5, .inr (1, [.int (iz 1600), .ref (r 5), .int (iz (z 5))])), (r 5, .inl (cI, n 5, .inl (iA (F 5)))), (o 6, .inr (1, [.int (iz 1600), .ref (r 6), .int (iz (z 6))])), (r 6, .inl (cI, n 6, .inl (iA (F 6)))), (o 14, .inr (3, [.ref (o 7), .ref (o 8), .ref (o 9)])), (o 7, .inr (1, [.int (iz 1600), .ref (r 7), .int (iz (z 7))])), (r 7, .inl (cI, n 7, .inl (iA (F 7)))), (o 8, .inr (1, [.int (iz 1600), .ref (r 8), .int (iz (z 8))])), (r 8, .inl (cI, n 8, .inl (iA (F 8)))), (o 9, .inr (1, [.int (iz 1600), .ref (r 9), .int (iz (z 9))])), (r 9, .inl (cI, n 9, .inl (iA (F 9)))), (o 12, .inr (4, [.int (iz (z 17)), .int (iz (z 18)), .int (iz (z 19)), .int (iz (z 20)), .int (iz (z 21))])), (o 10, .inr (2, [.ref (r 10), .int (iz (z 10)), .int (iz (z 22))])), (r 10, .inl (cB, n 10, .inl (iA (F 10)))), (Eo j44 0, .inr (0, [.int (iz (Ez j44 7)), .int (iz (Ez j44 8)), .ref (Eo j44 1), .ref (Eo j44 2), .ref (Eo j44 3), .ref (Eo j44 5), .ref (Eo j44 4), .int (iz (Ez j44 9)), .int (iz (Ez j44 10)), .int (iz (Ez j44 11)), .int (iz (Ez j44 12)), .int (iz (Ez j44 13))])), (Eo j44 2, .inr (1, [.int (iz 20), .ref (Er j44 1), .int (iz (Ez j44 1))])), (Er j44 1, .inl (cI, En j44 1, .inl (iA (EF j44 1)))), (Eo j44 3, .inr (1, [.int (iz 40), .ref (Er j44 2), .int (iz (Ez j44 2))])), (Er j44 2, .inl (cI, En j44 2, .inl (iA (EF j44 2)))), (Eo j44 4, .inr (1, [.int (iz 5), .ref (Er j44 3), .int (iz (Ez j44 3))])), (Er j44 3, .inl (cI, En j44 3, .inl (iA (EF j44 3)))), (Eo j44 5, .inr (3, [.ref (Eo j44 6), .ref (Eo j44 7), .ref (Eo j44 8)])), (Eo j44 6, .inr (1, [.int (iz 20), .ref (Er j44 4), .int (iz (Ez j44 4))])), (Er j44 4, .inl (cI, En j44 4, .inl (iA (EF j44 4)))), (Eo j44 7, .inr (1, [.int (iz 20), .ref (Er j44 5), .int (iz (Ez j44 5))])), (Er j44 5, .inl (cI, En j44 5, .inl (iA (EF j44 5)))), (Eo j44 8, .inr (1, [.int (iz 20), .ref (Er j44 6), .int (iz (Ez j44 6))])), (Er j44 6, .inl (cI, En j44 6, .inl (iA (EF j44 6))))]) (w1 := ((pU cB (o 11) (r 11) (n 11) z_52 tl_53 F_54) ++ (iU cI 20 (Eo j44 1) (Er j44 0) (En j44 0) (Ez j44 0) (EF j44 0)))) (ws' := ((xU cI cB cE o r n (va_up (va_up z 11 z_52) 23 tl_53) (va_up F 11 F_54) G (Eo 0 0)) ++ (eU cI (Eo j44) (Er j44) (En j44) (Ez j44) (EF j44)))) hP hD [27, 28, 30, 31] [0, 1, 2, 3, 4, 5, 6, 7, 8, 9, 10, 11, 12, 13, 14, 15, 16, 17, 18, 19, 20, 21, 22, 23, 24, 25, 26, 29, 32, 33, 34, 35, 36, 37, 38, 39, 40, 41, 42, 43, 44] [0, 1, 2, 3, 4, 5, 6, 7, 8, 9, 10, 11, 12, 13, 14, 15, 16, 17, 18, 19, 20, 21, 22, 23, 24, 25, 26, 41, 42, 27, 43, 44, 28, 29, 30, 31, 32, 33, 34, 35, 36, 37, 38, 39, 40] rfl rfl (by decide) (by decide) hk1 hFc hP1 hD1 rfl (by decide)
            refine W.eq (g2 := F0 m 94 ls []) rfl ?_
            try dsimp only at hq_49
            obtain ⟨hd55, hm55, hz55, ht55, hF55⟩ := hq_49
            subst hd55
            subst hm55
            refine lv_goto (tgt := 128) hx hb dX5_writeMark_94 (by decide) ?_
            have hP := eP_un0 hj44 hP
            have hD := eD_un0 hj44 hD
            have hok56 : xOk (va_up n 11 (n 11)) (va_up (va_up z 11 z_52) 23 tl_53) (va_up F 11 F_54) := ((hok.p 11 (by decide) (show 0 ≤ z_52 ∧ z_52 ≤ ((n 11 : Nat) : Int) ∧ (n 11 = 0 ∨ n 11 = 6000) by omega) hF55).s 23 (by decide) (show -2147483648 ≤ tl_53 ∧ tl_53 < 2147483648 by omega) (by omega))
            have hfr56 : xFr [11, 23] [11] z F (va_up (va_up z 11 z_52) 23 tl_53) (va_up F 11 F_54) := (((hfr.uz 11 (by decide) _).uz 23 (by decide) _).uf 11 (by decide) _)
            have hcg56 : (0) + xg (va_up n 11 (n 11)) ≤ xg n := by unfold xg; simp (decide := true) only [va_ev, ↓reduceIte]; omega
            have hcp56 : (0) + xp (va_up n 11 (n 11)) ≤ xp n := by unfold xp; simp (decide := true) only [va_ev, ↓reduceIte]; omega
            exact xk_vret (ov := (fun _ : (Nat → Nat) × (Nat → Nat) × (Nat → Int) × (Nat → Int → Int) × (Nat → Nat → Nat) × (Nat → Nat → Nat) × (Nat → Nat → Int) × (Nat → Nat → Int → Int) => none)) (post := (fun (u : (Nat → Nat) × (Nat → Nat) × (Nat → Int) × (Nat → Int → Int) × (Nat → Nat → Nat) × (Nat → Nat → Nat) × (Nat → Nat → Int) × (Nat → Nat → Int → Int)) (dn dm : Nat) => match u with | (r', n', z', F', Er', En', Ez', EF') => xR [11, 23] [11] [] [] N z F En Ez EF n' z' F' En' Ez' EF' ∧ (dn + xg n' ≤ xg n + 0 ∧ dm + xp n' ≤ xp n + 0) ∧ (True))) (ws := (fun u : (Nat → Nat) × (Nat → Nat) × (Nat → Int) × (Nat → Int → Int) × (Nat → Nat → Nat) × (Nat → Nat → Nat) × (Nat → Nat → Int) × (Nat → Nat → Int → Int) => match u with | (r', n', z', F', Er', En', Ez', EF') => (xU cI cB cE o r' n' z' F' G (Eo 0 0) ++ eP cI N Eo Er' En' Ez' EF'))) (tys := xT cI cB cE) (r, (va_up n 11 (n 11)), (va_up (va_up z 11 z_52) 23 tl_53), (va_up F 11 F_54), Er, En, Ez, EF) hx hb hr hlocks rfl hP hD hK hS dX5_writeMark_128 (fun dn dm hdn hdm => ⟨⟨hok56, hfr56, hPE, hef⟩, ⟨by omega, by omega⟩, trivial⟩) (by omega) (by omega)
      · skip
        refine lv_aload_n hx hb dX5_writeMark_42 rfl (lv_at hl 0 rfl) ?_
        refine va_get (D := (dC, dI)) (ci := 5) (v := .ref (o 11)) (C := RX5) (T := TX5) (N := 16) hx hb hts kt_X5 hown hK hP 0 rfl rfl 15 (by decide) (kx_word hG kq_19_xouts_60 rfl) (fun _ h9 => h9) rfl dX5_writeMark_43 ?_
        refine lv_iload hx hb dX5_writeMark_46 (lv_at hl 4 rfl) ?_
        refine lv_bipush (v := iz 97) hx hb dX5_writeMark_48 (by decide) ?_
        refine ki_icmp_ge (tgt := 61) hx hb dX5_writeMark_50 (by decide) (by omega) (by omega) (by omega) (by omega) (fun c_57 => ?_) (fun c_57 => ?_)
        · skip
          refine lv_iload hx hb dX5_writeMark_61 (lv_at hl 4 rfl) ?_
          have hxp_58 : 0 ≤ z 11 ∧ z 11 ≤ ((n 11 : Nat) : Int) ∧ (n 11 = 0 ∨ n 11 = 6000) := hok.2.1 11 (by decide)
          have hxz_59 : -2147483648 ≤ z 23 ∧ z 23 < 2147483648 := hok.2.2.2.1 23
          have hxb_60 : z 23 = 0 ∨ z 23 = 1 := hok.2.2.2.2 23 (by decide)
          have hPc := hP.sub (ws' := (pU cB (o 11) (r 11) (n 11) (z 11) (z 23) (F 11))) [27, 28] rfl
          have hDc := hD.sub (ws' := (pU cB (o 11) (r 11) (n 11) (z 11) (z 23) (F 11))) [27, 28] (by decide) rfl
          have hFc := va_free (wc := (pU cB (o 11) (r 11) (n 11) (z 11) (z 23) (F 11))) hD hS hA [27, 28] rfl
          refine xk_call (va_runV (As := [.int (iz p3)]) (rest := []) ⟨hx, hb, hml, hown, hts⟩ (x_put l dC dI cI cB cE (o 11) (r 11) (n 11) (z 11) (z 23) (F 11) p3 s.heap.size (by omega) (by omega) (hok.2.2.1 11) (by omega) (by omega)) (cwV 1 hts (kx_gV kq_19_xouts_65 kq_15_xspan_15 kq_15_xspan_16 kq_15_xspan_17 kq_15_xspan_18 rfl) rfl rfl rfl (by decide +kernel) ⟨Nat.le_of_ble_eq_true rfl, Nat.le_of_ble_eq_true rfl⟩) ⟨kx_blind, va_recv hK hPc (ci := 2) (q0 := 0) rfl rfl, kx_give (ws := []) (tys := []) hPc hDc hK hG hZ hS hFc⟩ rfl rfl hl.1 rfl (lv_room (Nat.le_of_ble_eq_true rfl)) dX5_writeMark_63 ⟨show 0 + 0 ≤ 100 from (by omega), show 0 + 0 ≤ 42000 from (by omega)⟩) hS (fun q _ h => hFc q h) hFc (fun u dn_62 dm_63 t H locs ht hvm hq_61 hB hk1 hS => ?_)
          obtain ⟨z_64, tl_65, F_66⟩ := u
          obtain ⟨hP1, hK1, hD1⟩ := hB
          rw [ht] at hP1
          obtain ⟨hP, hD⟩ := xj_pool (wr := [(o 15, .inr (5, [.ref (o 16), .ref (Eo 0 0), .int (iz (z 12)), .int (iz (z 13)), .int (iz (z 14)), .ref (o 0), .ref (o 1), .int (iz (z 15)), .ref (o 13), .ref (o 14), .int (iz (z 16)), .ref (o 2), .ref (o 12), .ref (o 3), .ref (o 10), .ref (o 11)])), (o 16, .inl (cE, 80, .inr (.inr (.inr (.inr G))))), (o 0, .inr (1, [.int (iz 80), .ref (r 0), .int (iz (z 0))])), (r 0, .inl (cI, n 0, .inl (iA (F 0)))), (o 1, .inr (1, [.int (iz 80), .ref (r 1), .int (iz (z 1))])), (r 1, .inl (cI, n 1, .inl (iA (F 1)))), (o 2, .inr (1, [.int (iz 80), .ref (r 2), .int (iz (z 2))])), (r 2, .inl (cI, n 2, .inl (iA (F 2)))), (o 3, .inr (1, [.int (iz 80), .ref (r 3), .int (iz (z 3))])), (r 3, .inl (cI, n 3, .inl (iA (F 3)))), (o 13, .inr (3, [.ref (o 4), .ref (o 5), .ref (o 6)])), (o 4, .inr (1, [.int (iz 1600), .ref (r 4), .int (iz (z 4))])), (r 4, .inl (cI, n 4, .inl (iA (F 4)))), (o 5, .inr (1, [.int (iz 1600), .ref (r 5), .int (iz (z 5))])), (r 5, .inl (cI, n 5, .inl (iA (F 5)))), (o 6, .inr (1, [.int (iz 1600), .ref (r 6), .int (iz (z 6))])), (r 6, .inl (cI, n 6, .inl (iA (F 6)))), (o 14, .inr (3, [.ref (o 7), .ref (o 8), .ref (o 9)])), (o 7, .inr (1, [.int (iz 1600), .ref (r 7), .int (iz (z 7))])), (r 7, .inl (cI, n 7, .inl (iA (F 7)))), (o 8, .inr (1, [.int (iz 1600), .ref (r 8), .int (iz (z 8))])), (r 8, .inl (cI, n 8, .inl (iA (F 8)))), (o 9, .inr (1, [.int (iz 1600), .ref (r 9), .int (iz (z 9))])), (r 9, .inl (cI, n 9, .inl (iA (F 9)))), (o 12, .inr (4, [.int (iz (z 17)), .int (iz (z 18)), .int (iz (z 19)), .int (iz (z 20)), .int (iz (z 21))])), (o 10, .inr (2, [.ref (r 10), .int (iz (z 10)), .int (iz (z 22))])), (r 10, .inl (cB, n 10, .inl (iA (F 10))))]) (w1 := (pU cB (o 11) (r 11) (n 11) z_64 tl_65 F_66)) (ws' := (xU cI cB cE o r n (va_up (va_up z 11 z_64) 23 tl_65) (va_up F 11 F_66) G (Eo 0 0))) hP hD [27, 28] [0, 1, 2, 3, 4, 5, 6, 7, 8, 9, 10, 11, 12, 13, 14, 15, 16, 17, 18, 19, 20, 21, 22, 23, 24, 25, 26] [0, 1, 2, 3, 4, 5, 6, 7, 8, 9, 10, 11, 12, 13, 14, 15, 16, 17, 18, 19, 20, 21, 22, 23, 24, 25, 26, 27, 28] rfl rfl (by decide) (by decide) hk1 hFc hP1 hD1 rfl (by decide)
          refine W.eq (g2 := F0 m 66 ls []) rfl ?_
          try dsimp only at hq_61
          obtain ⟨hd67, hm67, hz67, ht67, hF67⟩ := hq_61
          subst hd67
          subst hm67
          refine lv_goto (tgt := 128) hx hb dX5_writeMark_66 (by decide) ?_
          have hok68 : xOk (va_up n 11 (n 11)) (va_up (va_up z 11 z_64) 23 tl_65) (va_up F 11 F_66) := ((hok.p 11 (by decide) (show 0 ≤ z_64 ∧ z_64 ≤ ((n 11 : Nat) : Int) ∧ (n 11 = 0 ∨ n 11 = 6000) by omega) hF67).s 23 (by decide) (show -2147483648 ≤ tl_65 ∧ tl_65 < 2147483648 by omega) (by omega))
          have hfr68 : xFr [11, 23] [11] z F (va_up (va_up z 11 z_64) 23 tl_65) (va_up F 11 F_66) := (((hfr.uz 11 (by decide) _).uz 23 (by decide) _).uf 11 (by decide) _)
          have hcg68 : (0) + xg (va_up n 11 (n 11)) ≤ xg n := by unfold xg; simp (decide := true) only [va_ev, ↓reduceIte]; omega
          have hcp68 : (0) + xp (va_up n 11 (n 11)) ≤ xp n := by unfold xp; simp (decide := true) only [va_ev, ↓reduceIte]; omega
          exact xk_vret (ov := (fun _ : (Nat → Nat) × (Nat → Nat) × (Nat → Int) × (Nat → Int → Int) × (Nat → Nat → Nat) × (Nat → Nat → Nat) × (Nat → Nat → Int) × (Nat → Nat → Int → Int) => none)) (post := (fun (u : (Nat → Nat) × (Nat → Nat) × (Nat → Int) × (Nat → Int → Int) × (Nat → Nat → Nat) × (Nat → Nat → Nat) × (Nat → Nat → Int) × (Nat → Nat → Int → Int)) (dn dm : Nat) => match u with | (r', n', z', F', Er', En', Ez', EF') => xR [11, 23] [11] [] [] N z F En Ez EF n' z' F' En' Ez' EF' ∧ (dn + xg n' ≤ xg n + 0 ∧ dm + xp n' ≤ xp n + 0) ∧ (True))) (ws := (fun u : (Nat → Nat) × (Nat → Nat) × (Nat → Int) × (Nat → Int → Int) × (Nat → Nat → Nat) × (Nat → Nat → Nat) × (Nat → Nat → Int) × (Nat → Nat → Int → Int) => match u with | (r', n', z', F', Er', En', Ez', EF') => (xU cI cB cE o r' n' z' F' G (Eo 0 0) ++ eP cI N Eo Er' En' Ez' EF'))) (tys := xT cI cB cE) (r, (va_up n 11 (n 11)), (va_up (va_up z 11 z_64) 23 tl_65), (va_up F 11 F_66), Er, En, Ez, EF) hx hb hr hlocks rfl hP hD hK hS dX5_writeMark_128 (fun dn dm hdn hdm => ⟨⟨hok68, hfr68, hPE, hef⟩, ⟨by omega, by omega⟩, trivial⟩) (by omega) (by omega)
        · skip
          refine lv_bipush (v := iz 48) hx hb dX5_writeMark_53 (by decide) ?_
          refine lv_iload hx hb dX5_writeMark_55 (lv_at hl 4 rfl) ?_
          refine ki_iadd hx hb dX5_writeMark_57 ?_
          refine ki_any (fun z_69 hz_69a hz_69b => ?_)
          refine lv_goto (tgt := 63) hx hb dX5_writeMark_58 (by decide) ?_
          have hxp_70 : 0 ≤ z 11 ∧ z 11 ≤ ((n 11 : Nat) : Int) ∧ (n 11 = 0 ∨ n 11 = 6000) := hok.2.1 11 (by decide)
          have hxz_71 : -2147483648 ≤ z 23 ∧ z 23 < 2147483648 := hok.2.2.2.1 23
          have hxb_72 : z 23 = 0 ∨ z 23 = 1 := hok.2.2.2.2 23 (by decide)
          have hPc := hP.sub (ws' := (pU cB (o 11) (r 11) (n 11) (z 11) (z 23) (F 11))) [27, 28] rfl
          have hDc := hD.sub (ws' := (pU cB (o 11) (r 11) (n 11) (z 11) (z 23) (F 11))) [27, 28] (by decide) rfl
          have hFc := va_free (wc := (pU cB (o 11) (r 11) (n 11) (z 11) (z 23) (F 11))) hD hS hA [27, 28] rfl
          refine xk_call (va_runV (As := [.int (iz z_69)]) (rest := []) ⟨hx, hb, hml, hown, hts⟩ (x_put l dC dI cI cB cE (o 11) (r 11) (n 11) (z 11) (z 23) (F 11) z_69 s.heap.size (by omega) (by omega) (hok.2.2.1 11) (by omega) (by omega)) (cwV 1 hts (kx_gV kq_19_xouts_65 kq_15_xspan_15 kq_15_xspan_16 kq_15_xspan_17 kq_15_xspan_18 rfl) rfl rfl rfl (by decide +kernel) ⟨Nat.le_of_ble_eq_true rfl, Nat.le_of_ble_eq_true rfl⟩) ⟨kx_blind, va_recv hK hPc (ci := 2) (q0 := 0) rfl rfl, kx_give (ws := []) (tys := []) hPc hDc hK hG hZ hS hFc⟩ rfl rfl hl.1 rfl (lv_room (Nat.le_of_ble_eq_true rfl)) dX5_writeMark_63 ⟨show 0 + 0 ≤ 100 from (by omega), show 0 + 0 ≤ 42000 from (by omega)⟩) hS (fun q _ h => hFc q h) hFc (fun u dn_74 dm_75 t H locs ht hvm hq_73 hB hk1 hS => ?_)
          obtain ⟨z_76, tl_77, F_78⟩ := u
          obtain ⟨hP1, hK1, hD1⟩ := hB
          rw [ht] at hP1
          obtain ⟨hP, hD⟩ := xj_pool (wr := [(o 15, .inr (5, [.ref (o 16), .ref (Eo 0 0), .int (iz (z 12)), .int (iz (z 13)), .int (iz (z 14)), .ref (o 0), .ref (o 1), .int (iz (z 15)), .ref (o 13), .ref (o 14), .int (iz (z 16)), .ref (o 2), .ref (o 12), .ref (o 3), .ref (o 10), .ref (o 11)])), (o 16, .inl (cE, 80, .inr (.inr (.inr (.inr G))))), (o 0, .inr (1, [.int (iz 80), .ref (r 0), .int (iz (z 0))])), (r 0, .inl (cI, n 0, .inl (iA (F 0)))), (o 1, .inr (1, [.int (iz 80), .ref (r 1), .int (iz (z 1))])), (r 1, .inl (cI, n 1, .inl (iA (F 1)))), (o 2, .inr (1, [.int (iz 80), .ref (r 2), .int (iz (z 2))])), (r 2, .inl (cI, n 2, .inl (iA (F 2)))), (o 3, .inr (1, [.int (iz 80), .ref (r 3), .int (iz (z 3))])), (r 3, .inl (cI, n 3, .inl (iA (F 3)))), (o 13, .inr (3, [.ref (o 4), .ref (o 5), .ref (o 6)])), (o 4, .inr (1, [.int (iz 1600), .ref (r 4), .int (iz (z 4))])), (r 4, .inl (cI, n 4, .inl (iA (F 4)))), (o 5, .inr (1, [.int (iz 1600), .ref (r 5), .int (iz (z 5))])), (r 5, .inl (cI, n 5, .inl (iA (F 5)))), (o 6, .inr (1, [.int (iz 1600), .ref (r 6), .int (iz (z 6))])), (r 6, .inl (cI, n 6, .inl (iA (F 6)))), (o 14, .inr (3, [.ref (o 7), .ref (o 8), .ref (o 9)])), (o 7, .inr (1, [.int (iz 1600), .ref (r 7), .int (iz (z 7))])), (r 7, .inl (cI, n 7, .inl (iA (F 7)))), (o 8, .inr (1, [.int (iz 1600), .ref (r 8), .int (iz (z 8))])), (r 8, .inl (cI, n 8, .inl (iA (F 8)))), (o 9, .inr (1, [.int (iz 1600), .ref (r 9), .int (iz (z 9))])), (r 9, .inl (cI, n 9, .inl (iA (F 9)))), (o 12, .inr (4, [.int (iz (z 17)), .int (iz (z 18)), .int (iz (z 19)), .int (iz (z 20)), .int (iz (z 21))])), (o 10, .inr (2, [.ref (r 10), .int (iz (z 10)), .int (iz (z 22))])), (r 10, .inl (cB, n 10, .inl (iA (F 10))))]) (w1 := (pU cB (o 11) (r 11) (n 11) z_76 tl_77 F_78)) (ws' := (xU cI cB cE o r n (va_up (va_up z 11 z_76) 23 tl_77) (va_up F 11 F_78) G (Eo 0 0))) hP hD [27, 28] [0, 1, 2, 3, 4, 5, 6, 7, 8, 9, 10, 11, 12, 13, 14, 15, 16, 17, 18, 19, 20, 21, 22, 23, 24, 25, 26] [0, 1, 2, 3, 4, 5, 6, 7, 8, 9, 10, 11, 12, 13, 14, 15, 16, 17, 18, 19, 20, 21, 22, 23, 24, 25, 26, 27, 28] rfl rfl (by decide) (by decide) hk1 hFc hP1 hD1 rfl (by decide)
          refine W.eq (g2 := F0 m 66 ls []) rfl ?_
          try dsimp only at hq_73
          obtain ⟨hd79, hm79, hz79, ht79, hF79⟩ := hq_73
          subst hd79
          subst hm79
          refine lv_goto (tgt := 128) hx hb dX5_writeMark_66 (by decide) ?_
          have hok80 : xOk (va_up n 11 (n 11)) (va_up (va_up z 11 z_76) 23 tl_77) (va_up F 11 F_78) := ((hok.p 11 (by decide) (show 0 ≤ z_76 ∧ z_76 ≤ ((n 11 : Nat) : Int) ∧ (n 11 = 0 ∨ n 11 = 6000) by omega) hF79).s 23 (by decide) (show -2147483648 ≤ tl_77 ∧ tl_77 < 2147483648 by omega) (by omega))
          have hfr80 : xFr [11, 23] [11] z F (va_up (va_up z 11 z_76) 23 tl_77) (va_up F 11 F_78) := (((hfr.uz 11 (by decide) _).uz 23 (by decide) _).uf 11 (by decide) _)
          have hcg80 : (0) + xg (va_up n 11 (n 11)) ≤ xg n := by unfold xg; simp (decide := true) only [va_ev, ↓reduceIte]; omega
          have hcp80 : (0) + xp (va_up n 11 (n 11)) ≤ xp n := by unfold xp; simp (decide := true) only [va_ev, ↓reduceIte]; omega
          exact xk_vret (ov := (fun _ : (Nat → Nat) × (Nat → Nat) × (Nat → Int) × (Nat → Int → Int) × (Nat → Nat → Nat) × (Nat → Nat → Nat) × (Nat → Nat → Int) × (Nat → Nat → Int → Int) => none)) (post := (fun (u : (Nat → Nat) × (Nat → Nat) × (Nat → Int) × (Nat → Int → Int) × (Nat → Nat → Nat) × (Nat → Nat → Nat) × (Nat → Nat → Int) × (Nat → Nat → Int → Int)) (dn dm : Nat) => match u with | (r', n', z', F', Er', En', Ez', EF') => xR [11, 23] [11] [] [] N z F En Ez EF n' z' F' En' Ez' EF' ∧ (dn + xg n' ≤ xg n + 0 ∧ dm + xp n' ≤ xp n + 0) ∧ (True))) (ws := (fun u : (Nat → Nat) × (Nat → Nat) × (Nat → Int) × (Nat → Int → Int) × (Nat → Nat → Nat) × (Nat → Nat → Nat) × (Nat → Nat → Int) × (Nat → Nat → Int → Int) => match u with | (r', n', z', F', Er', En', Ez', EF') => (xU cI cB cE o r' n' z' F' G (Eo 0 0) ++ eP cI N Eo Er' En' Ez' EF'))) (tys := xT cI cB cE) (r, (va_up n 11 (n 11)), (va_up (va_up z 11 z_76) 23 tl_77), (va_up F 11 F_78), Er, En, Ez, EF) hx hb hr hlocks rfl hP hD hK hS dX5_writeMark_128 (fun dn dm hdn hdm => ⟨⟨hok80, hfr80, hPE, hef⟩, ⟨by omega, by omega⟩, trivial⟩) (by omega) (by omega)
    · skip
      refine lv_aload_n hx hb dX5_writeMark_24 rfl (lv_at hl 0 rfl) ?_
      refine va_get (D := (dC, dI)) (ci := 5) (v := .ref (o 11)) (C := RX5) (T := TX5) (N := 16) hx hb hts kt_X5 hown hK hP 0 rfl rfl 15 (by decide) (kx_word hG kq_19_xouts_60 rfl) (fun _ h9 => h9) rfl dX5_writeMark_25 ?_
      refine lv_bipush (v := iz 10) hx hb dX5_writeMark_28 (by decide) ?_
      have hxp_81 : 0 ≤ z 11 ∧ z 11 ≤ ((n 11 : Nat) : Int) ∧ (n 11 = 0 ∨ n 11 = 6000) := hok.2.1 11 (by decide)
      have hxz_82 : -2147483648 ≤ z 23 ∧ z 23 < 2147483648 := hok.2.2.2.1 23
      have hxb_83 : z 23 = 0 ∨ z 23 = 1 := hok.2.2.2.2 23 (by decide)
      have hPc := hP.sub (ws' := (pU cB (o 11) (r 11) (n 11) (z 11) (z 23) (F 11))) [27, 28] rfl
      have hDc := hD.sub (ws' := (pU cB (o 11) (r 11) (n 11) (z 11) (z 23) (F 11))) [27, 28] (by decide) rfl
      have hFc := va_free (wc := (pU cB (o 11) (r 11) (n 11) (z 11) (z 23) (F 11))) hD hS hA [27, 28] rfl
      refine xk_call (va_runV (As := [.int (iz 10)]) (rest := []) ⟨hx, hb, hml, hown, hts⟩ (x_put l dC dI cI cB cE (o 11) (r 11) (n 11) (z 11) (z 23) (F 11) 10 s.heap.size (by omega) (by omega) (hok.2.2.1 11) (by omega) (by omega)) (cwV 1 hts (kx_gV kq_19_xouts_65 kq_15_xspan_15 kq_15_xspan_16 kq_15_xspan_17 kq_15_xspan_18 rfl) rfl rfl rfl (by decide +kernel) ⟨Nat.le_of_ble_eq_true rfl, Nat.le_of_ble_eq_true rfl⟩) ⟨kx_blind, va_recv hK hPc (ci := 2) (q0 := 0) rfl rfl, kx_give (ws := []) (tys := []) hPc hDc hK hG hZ hS hFc⟩ rfl rfl hl.1 rfl (lv_room (Nat.le_of_ble_eq_true rfl)) dX5_writeMark_30 ⟨show 0 + 0 ≤ 100 from (by omega), show 0 + 0 ≤ 42000 from (by omega)⟩) hS (fun q _ h => hFc q h) hFc (fun u dn_85 dm_86 t H locs ht hvm hq_84 hB hk1 hS => ?_)
      obtain ⟨z_87, tl_88, F_89⟩ := u
      obtain ⟨hP1, hK1, hD1⟩ := hB
      rw [ht] at hP1
      obtain ⟨hP, hD⟩ := xj_pool (wr := [(o 15, .inr (5, [.ref (o 16), .ref (Eo 0 0), .int (iz (z 12)), .int (iz (z 13)), .int (iz (z 14)), .ref (o 0), .ref (o 1), .int (iz (z 15)), .ref (o 13), .ref (o 14), .int (iz (z 16)), .ref (o 2), .ref (o 12), .ref (o 3), .ref (o 10), .ref (o 11)])), (o 16, .inl (cE, 80, .inr (.inr (.inr (.inr G))))), (o 0, .inr (1, [.int (iz 80), .ref (r 0), .int (iz (z 0))])), (r 0, .inl (cI, n 0, .inl (iA (F 0)))), (o 1, .inr (1, [.int (iz 80), .ref (r 1), .int (iz (z 1))])), (r 1, .inl (cI, n 1, .inl (iA (F 1)))), (o 2, .inr (1, [.int (iz 80), .ref (r 2), .int (iz (z 2))])), (r 2, .inl (cI, n 2, .inl (iA (F 2)))), (o 3, .inr (1, [.int (iz 80), .ref (r 3), .int (iz (z 3))])), (r 3, .inl (cI, n 3, .inl (iA (F 3)))), (o 13, .inr (3, [.ref (o 4), .ref (o 5), .ref (o 6)])), (o 4, .inr (1, [.int (iz 1600), .ref (r 4), .int (iz (z 4))])), (r 4, .inl (cI, n 4, .inl (iA (F 4)))), (o 5, .inr (1, [.int (iz 1600), .ref (r 5), .int (iz (z 5))])), (r 5, .inl (cI, n 5, .inl (iA (F 5)))), (o 6, .inr (1, [.int (iz 1600), .ref (r 6), .int (iz (z 6))])), (r 6, .inl (cI, n 6, .inl (iA (F 6)))), (o 14, .inr (3, [.ref (o 7), .ref (o 8), .ref (o 9)])), (o 7, .inr (1, [.int (iz 1600), .ref (r 7), .int (iz (z 7))])), (r 7, .inl (cI, n 7, .inl (iA (F 7)))), (o 8, .inr (1, [.int (iz 1600), .ref (r 8), .int (iz (z 8))])), (r 8, .inl (cI, n 8, .inl (iA (F 8)))), (o 9, .inr (1, [.int (iz 1600), .ref (r 9), .int (iz (z 9))])), (r 9, .inl (cI, n 9, .inl (iA (F 9)))), (o 12, .inr (4, [.int (iz (z 17)), .int (iz (z 18)), .int (iz (z 19)), .int (iz (z 20)), .int (iz (z 21))])), (o 10, .inr (2, [.ref (r 10), .int (iz (z 10)), .int (iz (z 22))])), (r 10, .inl (cB, n 10, .inl (iA (F 10))))]) (w1 := (pU cB (o 11) (r 11) (n 11) z_87 tl_88 F_89)) (ws' := (xU cI cB cE o r n (va_up (va_up z 11 z_87) 23 tl_88) (va_up F 11 F_89) G (Eo 0 0))) hP hD [27, 28] [0, 1, 2, 3, 4, 5, 6, 7, 8, 9, 10, 11, 12, 13, 14, 15, 16, 17, 18, 19, 20, 21, 22, 23, 24, 25, 26] [0, 1, 2, 3, 4, 5, 6, 7, 8, 9, 10, 11, 12, 13, 14, 15, 16, 17, 18, 19, 20, 21, 22, 23, 24, 25, 26, 27, 28] rfl rfl (by decide) (by decide) hk1 hFc hP1 hD1 rfl (by decide)
      refine W.eq (g2 := F0 m 33 ls []) rfl ?_
      try dsimp only at hq_84
      obtain ⟨hd90, hm90, hz90, ht90, hF90⟩ := hq_84
      subst hd90
      subst hm90
      refine lv_goto (tgt := 128) hx hb dX5_writeMark_33 (by decide) ?_
      have hok91 : xOk (va_up n 11 (n 11)) (va_up (va_up z 11 z_87) 23 tl_88) (va_up F 11 F_89) := ((hok.p 11 (by decide) (show 0 ≤ z_87 ∧ z_87 ≤ ((n 11 : Nat) : Int) ∧ (n 11 = 0 ∨ n 11 = 6000) by omega) hF90).s 23 (by decide) (show -2147483648 ≤ tl_88 ∧ tl_88 < 2147483648 by omega) (by omega))
      have hfr91 : xFr [11, 23] [11] z F (va_up (va_up z 11 z_87) 23 tl_88) (va_up F 11 F_89) := (((hfr.uz 11 (by decide) _).uz 23 (by decide) _).uf 11 (by decide) _)
      have hcg91 : (0) + xg (va_up n 11 (n 11)) ≤ xg n := by unfold xg; simp (decide := true) only [va_ev, ↓reduceIte]; omega
      have hcp91 : (0) + xp (va_up n 11 (n 11)) ≤ xp n := by unfold xp; simp (decide := true) only [va_ev, ↓reduceIte]; omega
      exact xk_vret (ov := (fun _ : (Nat → Nat) × (Nat → Nat) × (Nat → Int) × (Nat → Int → Int) × (Nat → Nat → Nat) × (Nat → Nat → Nat) × (Nat → Nat → Int) × (Nat → Nat → Int → Int) => none)) (post := (fun (u : (Nat → Nat) × (Nat → Nat) × (Nat → Int) × (Nat → Int → Int) × (Nat → Nat → Nat) × (Nat → Nat → Nat) × (Nat → Nat → Int) × (Nat → Nat → Int → Int)) (dn dm : Nat) => match u with | (r', n', z', F', Er', En', Ez', EF') => xR [11, 23] [11] [] [] N z F En Ez EF n' z' F' En' Ez' EF' ∧ (dn + xg n' ≤ xg n + 0 ∧ dm + xp n' ≤ xp n + 0) ∧ (True))) (ws := (fun u : (Nat → Nat) × (Nat → Nat) × (Nat → Int) × (Nat → Int → Int) × (Nat → Nat → Nat) × (Nat → Nat → Nat) × (Nat → Nat → Int) × (Nat → Nat → Int → Int) => match u with | (r', n', z', F', Er', En', Ez', EF') => (xU cI cB cE o r' n' z' F' G (Eo 0 0) ++ eP cI N Eo Er' En' Ez' EF'))) (tys := xT cI cB cE) (r, (va_up n 11 (n 11)), (va_up (va_up z 11 z_87) 23 tl_88), (va_up F 11 F_89), Er, En, Ez, EF) hx hb hr hlocks rfl hP hD hK hS dX5_writeMark_128 (fun dn dm hdn hdm => ⟨⟨hok91, hfr91, hPE, hef⟩, ⟨by omega, by omega⟩, trivial⟩) (by omega) (by omega)
  · skip
    refine lv_aload_n hx hb dX5_writeMark_6 rfl (lv_at hl 0 rfl) ?_
    refine va_get (D := (dC, dI)) (ci := 5) (v := .ref (o 11)) (C := RX5) (T := TX5) (N := 16) hx hb hts kt_X5 hown hK hP 0 rfl rfl 15 (by decide) (kx_word hG kq_19_xouts_60 rfl) (fun _ h9 => h9) rfl dX5_writeMark_7 ?_
    refine lv_bipush (v := iz 37) hx hb dX5_writeMark_10 (by decide) ?_
    have hxp_92 : 0 ≤ z 11 ∧ z 11 ≤ ((n 11 : Nat) : Int) ∧ (n 11 = 0 ∨ n 11 = 6000) := hok.2.1 11 (by decide)
    have hxz_93 : -2147483648 ≤ z 23 ∧ z 23 < 2147483648 := hok.2.2.2.1 23
    have hxb_94 : z 23 = 0 ∨ z 23 = 1 := hok.2.2.2.2 23 (by decide)
    have hPc := hP.sub (ws' := (pU cB (o 11) (r 11) (n 11) (z 11) (z 23) (F 11))) [27, 28] rfl
    have hDc := hD.sub (ws' := (pU cB (o 11) (r 11) (n 11) (z 11) (z 23) (F 11))) [27, 28] (by decide) rfl
    have hFc := va_free (wc := (pU cB (o 11) (r 11) (n 11) (z 11) (z 23) (F 11))) hD hS hA [27, 28] rfl
    refine xk_call (va_runV (As := [.int (iz 37)]) (rest := []) ⟨hx, hb, hml, hown, hts⟩ (x_put l dC dI cI cB cE (o 11) (r 11) (n 11) (z 11) (z 23) (F 11) 37 s.heap.size (by omega) (by omega) (hok.2.2.1 11) (by omega) (by omega)) (cwV 1 hts (kx_gV kq_19_xouts_65 kq_15_xspan_15 kq_15_xspan_16 kq_15_xspan_17 kq_15_xspan_18 rfl) rfl rfl rfl (by decide +kernel) ⟨Nat.le_of_ble_eq_true rfl, Nat.le_of_ble_eq_true rfl⟩) ⟨kx_blind, va_recv hK hPc (ci := 2) (q0 := 0) rfl rfl, kx_give (ws := []) (tys := []) hPc hDc hK hG hZ hS hFc⟩ rfl rfl hl.1 rfl (lv_room (Nat.le_of_ble_eq_true rfl)) dX5_writeMark_12 ⟨show 0 + 0 ≤ 100 from (by omega), show 0 + 0 ≤ 42000 from (by omega)⟩) hS (fun q _ h => hFc q h) hFc (fun u dn_96 dm_97 t H locs ht hvm hq_95 hB hk1 hS => ?_)
    obtain ⟨z_98, tl_99, F_100⟩ := u
    obtain ⟨hP1, hK1, hD1⟩ := hB
    rw [ht] at hP1
    obtain ⟨hP, hD⟩ := xj_pool (wr := [(o 15, .inr (5, [.ref (o 16), .ref (Eo 0 0), .int (iz (z 12)), .int (iz (z 13)), .int (iz (z 14)), .ref (o 0), .ref (o 1), .int (iz (z 15)), .ref (o 13), .ref (o 14), .int (iz (z 16)), .ref (o 2), .ref (o 12), .ref (o 3), .ref (o 10), .ref (o 11)])), (o 16, .inl (cE, 80, .inr (.inr (.inr (.inr G))))), (o 0, .inr (1, [.int (iz 80), .ref (r 0), .int (iz (z 0))])), (r 0, .inl (cI, n 0, .inl (iA (F 0)))), (o 1, .inr (1, [.int (iz 80), .ref (r 1), .int (iz (z 1))])), (r 1, .inl (cI, n 1, .inl (iA (F 1)))), (o 2, .inr (1, [.int (iz 80), .ref (r 2), .int (iz (z 2))])), (r 2, .inl (cI, n 2, .inl (iA (F 2)))), (o 3, .inr (1, [.int (iz 80), .ref (r 3), .int (iz (z 3))])), (r 3, .inl (cI, n 3, .inl (iA (F 3)))), (o 13, .inr (3, [.ref (o 4), .ref (o 5), .ref (o 6)])), (o 4, .inr (1, [.int (iz 1600), .ref (r 4), .int (iz (z 4))])), (r 4, .inl (cI, n 4, .inl (iA (F 4)))), (o 5, .inr (1, [.int (iz 1600), .ref (r 5), .int (iz (z 5))])), (r 5, .inl (cI, n 5, .inl (iA (F 5)))), (o 6, .inr (1, [.int (iz 1600), .ref (r 6), .int (iz (z 6))])), (r 6, .inl (cI, n 6, .inl (iA (F 6)))), (o 14, .inr (3, [.ref (o 7), .ref (o 8), .ref (o 9)])), (o 7, .inr (1, [.int (iz 1600), .ref (r 7), .int (iz (z 7))])), (r 7, .inl (cI, n 7, .inl (iA (F 7)))), (o 8, .inr (1, [.int (iz 1600), .ref (r 8), .int (iz (z 8))])), (r 8, .inl (cI, n 8, .inl (iA (F 8)))), (o 9, .inr (1, [.int (iz 1600), .ref (r 9), .int (iz (z 9))])), (r 9, .inl (cI, n 9, .inl (iA (F 9)))), (o 12, .inr (4, [.int (iz (z 17)), .int (iz (z 18)), .int (iz (z 19)), .int (iz (z 20)), .int (iz (z 21))])), (o 10, .inr (2, [.ref (r 10), .int (iz (z 10)), .int (iz (z 22))])), (r 10, .inl (cB, n 10, .inl (iA (F 10))))]) (w1 := (pU cB (o 11) (r 11) (n 11) z_98 tl_99 F_100)) (ws' := (xU cI cB cE o r n (va_up (va_up z 11 z_98) 23 tl_99) (va_up F 11 F_100) G (Eo 0 0))) hP hD [27, 28] [0, 1, 2, 3, 4, 5, 6, 7, 8, 9, 10, 11, 12, 13, 14, 15, 16, 17, 18, 19, 20, 21, 22, 23, 24, 25, 26] [0, 1, 2, 3, 4, 5, 6, 7, 8, 9, 10, 11, 12, 13, 14, 15, 16, 17, 18, 19, 20, 21, 22, 23, 24, 25, 26, 27, 28] rfl rfl (by decide) (by decide) hk1 hFc hP1 hD1 rfl (by decide)
    refine W.eq (g2 := F0 m 15 ls []) rfl ?_
    try dsimp only at hq_95
    obtain ⟨hd101, hm101, hz101, ht101, hF101⟩ := hq_95
    subst hd101
    subst hm101
    refine lv_goto (tgt := 128) hx hb dX5_writeMark_15 (by decide) ?_
    have hok102 : xOk (va_up n 11 (n 11)) (va_up (va_up z 11 z_98) 23 tl_99) (va_up F 11 F_100) := ((hok.p 11 (by decide) (show 0 ≤ z_98 ∧ z_98 ≤ ((n 11 : Nat) : Int) ∧ (n 11 = 0 ∨ n 11 = 6000) by omega) hF101).s 23 (by decide) (show -2147483648 ≤ tl_99 ∧ tl_99 < 2147483648 by omega) (by omega))
    have hfr102 : xFr [11, 23] [11] z F (va_up (va_up z 11 z_98) 23 tl_99) (va_up F 11 F_100) := (((hfr.uz 11 (by decide) _).uz 23 (by decide) _).uf 11 (by decide) _)
    have hcg102 : (0) + xg (va_up n 11 (n 11)) ≤ xg n := by unfold xg; simp (decide := true) only [va_ev, ↓reduceIte]; omega
    have hcp102 : (0) + xp (va_up n 11 (n 11)) ≤ xp n := by unfold xp; simp (decide := true) only [va_ev, ↓reduceIte]; omega
    exact xk_vret (ov := (fun _ : (Nat → Nat) × (Nat → Nat) × (Nat → Int) × (Nat → Int → Int) × (Nat → Nat → Nat) × (Nat → Nat → Nat) × (Nat → Nat → Int) × (Nat → Nat → Int → Int) => none)) (post := (fun (u : (Nat → Nat) × (Nat → Nat) × (Nat → Int) × (Nat → Int → Int) × (Nat → Nat → Nat) × (Nat → Nat → Nat) × (Nat → Nat → Int) × (Nat → Nat → Int → Int)) (dn dm : Nat) => match u with | (r', n', z', F', Er', En', Ez', EF') => xR [11, 23] [11] [] [] N z F En Ez EF n' z' F' En' Ez' EF' ∧ (dn + xg n' ≤ xg n + 0 ∧ dm + xp n' ≤ xp n + 0) ∧ (True))) (ws := (fun u : (Nat → Nat) × (Nat → Nat) × (Nat → Int) × (Nat → Int → Int) × (Nat → Nat → Nat) × (Nat → Nat → Nat) × (Nat → Nat → Int) × (Nat → Nat → Int → Int) => match u with | (r', n', z', F', Er', En', Ez', EF') => (xU cI cB cE o r' n' z' F' G (Eo 0 0) ++ eP cI N Eo Er' En' Ez' EF'))) (tys := xT cI cB cE) (r, (va_up n 11 (n 11)), (va_up (va_up z 11 z_98) 23 tl_99), (va_up F 11 F_100), Er, En, Ez, EF) hx hb hr hlocks rfl hP hD hK hS dX5_writeMark_128 (fun dn dm hdn hdm => ⟨⟨hok102, hfr102, hPE, hef⟩, ⟨by omega, by omega⟩, trivial⟩) (by omega) (by omega)
set_option maxHeartbeats 4000000 in
set_option maxRecDepth 100000 in
theorem y_writePart (l : Launch) (dC : Nat → ClassId) (dI : Nat → Nat → Nat) (cI cB cE : ClassId) (o r n : Nat → Nat) (z : Nat → Int) (F : Nat → Int → Int) (G : Nat → Option Nat) (N : Nat) (Eo Er En : Nat → Nat → Nat) (Ez : Nat → Nat → Int) (EF : Nat → Nat → Int → Int) (p0 : Int) (p1 : Int) (p2 : Int) (sz : Nat) (hok : xOk n z F) (hxG : xG N (z 12) G Eo) (hPE : eA N En Ez EF) (hp01 : -2147483648 ≤ p0) (hp02 : p0 < 2147483648) (hp11 : -2147483648 ≤ p1) (hp12 : p1 < 2147483648) (hp21 : -2147483648 ≤ p2) (hp22 : p2 < 2147483648) : Met l yX5_writePart [.code yX5_writePart cX5_writePart 7 none] ({ frames := 5, cells := 200, slots := 85000, locals := 113 }) (va_Pc [.ref (o 15), .int (iz p0), .int (iz p1), .int (iz p2)] (kx_Pre dC dI (xU cI cB cE o r n z F G (Eo 0 0) ++ eP cI N Eo Er En Ez EF) (xT cI cB cE) sz)) (xQ (fun _ : (Nat → Nat) × (Nat → Nat) × (Nat → Int) × (Nat → Int → Int) × (Nat → Nat → Nat) × (Nat → Nat → Nat) × (Nat → Nat → Int) × (Nat → Nat → Int → Int) => none) (fun (u : (Nat → Nat) × (Nat → Nat) × (Nat → Int) × (Nat → Int → Int) × (Nat → Nat → Nat) × (Nat → Nat → Nat) × (Nat → Nat → Int) × (Nat → Nat → Int → Int)) (dn dm : Nat) => match u with | (r', n', z', F', Er', En', Ez', EF') => xR [11, 23] [11] [] [] N z F En Ez EF n' z' F' En' Ez' EF' ∧ (dn + xg n' ≤ xg n + 0 ∧ dm + xp n' ≤ xp n + 0) ∧ (True)) (fun u t => kx_At dC dI (va_A (xU cI cB cE o r n z F G (Eo 0 0) ++ eP cI N Eo Er En Ez EF) sz) ((fun u : (Nat → Nat) × (Nat → Nat) × (Nat → Int) × (Nat → Int → Int) × (Nat → Nat → Nat) × (Nat → Nat → Nat) × (Nat → Nat → Int) × (Nat → Nat → Int → Int) => match u with | (r', n', z', F', Er', En', Ez', EF') => (xU cI cB cE o r' n' z' F' G (Eo 0 0) ++ eP cI N Eo Er' En' Ez' EF')) u) (xT cI cB cE) t) (va_A (xU cI cB cE o r n z F G (Eo 0 0) ++ eP cI N Eo Er En Ez EF) sz)) 200 85000 (va_A (xU cI cB cE o r n z F G (Eo 0 0) ++ eP cI N Eo Er En Ez EF) sz) := by
  refine Met.ofW (cc := cX5_writePart) (maxL := 7) (ret := none) (by decide) rfl ?_
  intro p e s m args below meth c s₁ B hml hv
  obtain ⟨rfl, hsz, hP, hK, hD0, hG, hZ⟩ := hv
  have hx := B.exec
  have hb := B.bytes
  have hr := B.returns
  have hts := kx_hts (a := ([.ref (o 15), .int (iz p0), .int (iz p1), .int (iz p2)] : List Value).toArray) hG
  have hown : s.vm.findClass RX5 = some m.cls := findClass_of_methodNamed B.named
  have hlocks := B.notSynchronized
  subst hsz
  have hD := hD0.self (sz := s.heap.size)
  generalize hAe : va_A (xU cI cB cE o r n z F G (Eo 0 0) ++ eP cI N Eo Er En Ez EF) s.heap.size = A at hD hZ ⊢
  have hA : ∀ q : Nat, s.heap.size ≤ q → A q := fun q h => by rw [← hAe]; exact Or.inr h
  have hS : va_S A s.heap s.heap [] := va_S.rf
  have hl := lv_entry ([.ref (o 15), .int (iz p0), .int (iz p1), .int (iz p2)]) (n := 7) (Nat.le_of_ble_eq_true rfl)
  rw [lg_entry_eq]
  generalize (lg_sl ([.ref (o 15), .int (iz p0), .int (iz p1), .int (iz p2)]) ++ List.replicate (7 - (lg_sl ([.ref (o 15), .int (iz p0), .int (iz p1), .int (iz p2)])).length) Slot.unset).toArray = ls at hl ⊢
  obtain ⟨hN1, hN2, hN3, hN4⟩ := hxG
  have hef : eFr [] [] En Ez EF En Ez EF := eFr.rf
  have hfr : xFr [11, 23] [11] z F z F := xFr.rf
  have hxgl := xg_le n
  have hxpl := xp_le n
  have hl : lv_has ls 7 [(0, .ref (o 15)), (1, .int (iz p0)), (2, .int (iz p1)), (3, .int (iz p2))] := hl
  generalize hQe : MQ below (xQ (fun _ : (Nat → Nat) × (Nat → Nat) × (Nat → Int) × (Nat → Int → Int) × (Nat → Nat → Nat) × (Nat → Nat → Nat) × (Nat → Nat → Int) × (Nat → Nat → Int → Int) => none) (fun (u : (Nat → Nat) × (Nat → Nat) × (Nat → Int) × (Nat → Int → Int) × (Nat → Nat → Nat) × (Nat → Nat → Nat) × (Nat → Nat → Int) × (Nat → Nat → Int → Int)) (dn dm : Nat) => match u with | (r', n', z', F', Er', En', Ez', EF') => xR [11, 23] [11] [] [] N z F En Ez EF n' z' F' En' Ez' EF' ∧ (dn + xg n' ≤ xg n + 0 ∧ dm + xp n' ≤ xp n + 0) ∧ (True)) (fun u t => kx_At dC dI A ((fun u : (Nat → Nat) × (Nat → Nat) × (Nat → Int) × (Nat → Int → Int) × (Nat → Nat → Nat) × (Nat → Nat → Nat) × (Nat → Nat → Int) × (Nat → Nat → Int → Int) => match u with | (r', n', z', F', Er', En', Ez', EF') => (xU cI cB cE o r' n' z' F' G (Eo 0 0) ++ eP cI N Eo Er' En' Ez' EF')) u) (xT cI cB cE) t) A) ([.ref (o 15), .int (iz p0), .int (iz p1), .int (iz p2)] : List Value).toArray s 200 85000 A = QQ
  have hz3 : 0 ≤ z 3 ∧ z 3 ≤ (n 3 : Int) ∧ (n 3 : Int) ≤ 80 := hok.1 3 (by decide)
  refine lv_iconst (v := iz 0) hx hb dX5_writePart_0 (by decide) ?_
  refine lv_istore (lv' := [(4, .int (iz 0)), (0, .ref (o 15)), (1, .int (iz p0)), (2, .int (iz p1)), (3, .int (iz p2))]) hx hb dX5_writePart_1 hl (by decide) rfl (fun ls hl => ?_)
  refine lv_iconst (v := iz 0) hx hb dX5_writePart_3 (by decide) ?_
  refine lv_istore (lv' := [(5, .int (iz 0)), (4, .int (iz 0)), (0, .ref (o 15)), (1, .int (iz p0)), (2, .int (iz p1)), (3, .int (iz p2))]) hx hb dX5_writePart_4 hl (by decide) rfl (fun ls hl => ?_)
  have lp6 : ∀ (n0 : Nat) (b : Int) (k : Int) (rL6 : Nat → Nat) (nL6 : Nat → Nat) (zL6 : Nat → Int) (FL6 : Nat → Int → Int) (ErL6 : Nat → Nat → Nat) (EnL6 : Nat → Nat → Nat) (EzL6 : Nat → Nat → Int) (EFL6 : Nat → Nat → Int → Int) (cv : Nat) (sv : Nat), ((xR [11, 23] [11] [] [] N z F En Ez EF nL6 zL6 FL6 EnL6 EzL6 EFL6) ∧ (cv + xg nL6 ≤ xg n + (0) ∧ sv + xp nL6 ≤ xp n + (0)) ∧ (zL6 12 = z 12) ∧ (0 ≤ b ∧ b ≤ k) ∧ (0 ≤ k ∧ k ≤ 81)) → (z 3 - k).toNat < n0 → ∀ (H : Heap) (locs : List Loc), va_P (dC, dI) kxCl ((xU cI cB cE o rL6 nL6 zL6 FL6 G (Eo 0 0)) ++ (eP cI N Eo ErL6 EnL6 EzL6 EFL6)) H → va_D A ((xU cI cB cE o rL6 nL6 zL6 FL6 G (Eo 0 0)) ++ (eP cI N Eo ErL6 EnL6 EzL6 EFL6)) → va_S A s.heap H locs → ∀ ls : Array Slot, lv_has ls 7 [(5, .int (iz k)), (4, .int (iz b)), (0, .ref (o 15)), (1, .int (iz p0)), (2, .int (iz p1)), (3, .int (iz p2))] → W p l e (headSpec [.code yX5_writePart cX5_writePart 7 none] ({ frames := 5, cells := 200, slots := 85000, locals := 113 })).room s m ([.ref (o 15), .int (iz p0), .int (iz p1), .int (iz p2)] : List Value).toArray below meth c H locs cv sv QQ (F0 m 6 ls []) := by
    intro n0
    induction n0 with
    | zero => intro b k rL6 nL6 zL6 FL6 ErL6 EnL6 EzL6 EFL6 cv sv hinv hm0; exact absurd hm0 (Nat.not_lt_zero _)
    | succ n0 ih6 =>
      intro b k rL6 nL6 zL6 FL6 ErL6 EnL6 EzL6 EFL6 cv sv hinv hm0 H locs hP hD hS ls hl
      obtain ⟨hRLL6, hCLL6, hZLL6, hb9, hk⟩ := hinv
      have hkzL6_3 : zL6 3 = z 3 := hRLL6.2.1.1 3 (by decide)
      refine lv_iload hx hb dX5_writePart_6 (lv_at hl 0 rfl) ?_
      refine lv_aload_n hx hb dX5_writePart_8 rfl (lv_at hl 2 rfl) ?_
      refine va_get (D := (dC, dI)) (ci := 5) (v := .ref (o 3)) (C := RX5) (T := TX5) (N := 16) hx hb hts kt_X5 hown hK hP 0 rfl rfl 13 (by decide) (kx_word hG kq_19_xouts_56 rfl) (fun _ h9 => h9) rfl dX5_writePart_9 ?_
      have hxi_1 : 0 ≤ zL6 3 ∧ zL6 3 ≤ ((nL6 3 : Nat) : Int) ∧ ((nL6 3 : Nat) : Int) ≤ 80 := hRLL6.1.1 3 (by decide)
      have hPc := hP.sub (ws' := (iU cI 80 (o 3) (rL6 3) (nL6 3) (zL6 3) (FL6 3))) [8, 9] rfl
      refine xk_pure (va_runV (As := []) (rest := [.int (iz k)]) ⟨hx, hb, hml, hown, hts⟩ (x_size l dC dI cI cB cE 80 (o 3) (rL6 3) (nL6 3) (zL6 3) (FL6 3)  H.size ) (cwV 0 hts (kx_gV kq_18_xrows_40 kq_15_xspan_10 kq_15_xspan_11 kq_13_xints_6 kq_15_xspan_12 rfl) rfl rfl rfl (by decide +kernel) ⟨Nat.le_of_ble_eq_true rfl, Nat.le_of_ble_eq_true rfl⟩) ⟨pPre_blind, va_recv hK hPc (ci := 1) (q0 := 0) rfl rfl, pPre_give hPc hK hG⟩ rfl rfl hl.1 rfl (lv_room (Nat.le_of_ble_eq_true rfl)) dX5_writePart_12 ⟨show cv + 0 ≤ 200 from (by omega), show sv + 0 ≤ 85000 from (by omega)⟩) hS (fun z_3 locs hq_2 hS => ?_)
      refine W.eq (g2 := F0 m 15 ls [.int (iz z_3), .int (iz k)]) rfl ?_
      try dsimp only at hq_2
      have hq_2 := hq_2.symm
      subst hq_2
      refine ki_icmp_ge (tgt := 106) hx hb dX5_writePart_15 (by decide) (by omega) (by omega) (by omega) (by omega) (fun c_4 => ?_) (fun c_4 => ?_)
      · skip
        rw [← hQe]
        exact xk_vret (ov := (fun _ : (Nat → Nat) × (Nat → Nat) × (Nat → Int) × (Nat → Int → Int) × (Nat → Nat → Nat) × (Nat → Nat → Nat) × (Nat → Nat → Int) × (Nat → Nat → Int → Int) => none)) (post := (fun (u : (Nat → Nat) × (Nat → Nat) × (Nat → Int) × (Nat → Int → Int) × (Nat → Nat → Nat) × (Nat → Nat → Nat) × (Nat → Nat → Int) × (Nat → Nat → Int → Int)) (dn dm : Nat) => match u with | (r', n', z', F', Er', En', Ez', EF') => xR [11, 23] [11] [] [] N z F En Ez EF n' z' F' En' Ez' EF' ∧ (dn + xg n' ≤ xg n + 0 ∧ dm + xp n' ≤ xp n + 0) ∧ (True))) (ws := (fun u : (Nat → Nat) × (Nat → Nat) × (Nat → Int) × (Nat → Int → Int) × (Nat → Nat → Nat) × (Nat → Nat → Nat) × (Nat → Nat → Int) × (Nat → Nat → Int → Int) => match u with | (r', n', z', F', Er', En', Ez', EF') => (xU cI cB cE o r' n' z' F' G (Eo 0 0) ++ eP cI N Eo Er' En' Ez' EF'))) (tys := xT cI cB cE) (rL6, nL6, zL6, FL6, ErL6, EnL6, EzL6, EFL6) hx hb hr hlocks rfl hP hD hK hS dX5_writePart_106 (fun dn dm hdn hdm => ⟨⟨hRLL6.1, hRLL6.2.1, hRLL6.2.2.1, hRLL6.2.2.2⟩, ⟨by omega, by omega⟩, trivial⟩) (by omega) (by omega)
      · skip
        refine lv_aload_n hx hb dX5_writePart_18 rfl (lv_at hl 2 rfl) ?_
        refine va_get (D := (dC, dI)) (ci := 5) (v := .ref (o 3)) (C := RX5) (T := TX5) (N := 16) hx hb hts kt_X5 hown hK hP 0 rfl rfl 13 (by decide) (kx_word hG kq_19_xouts_56 rfl) (fun _ h9 => h9) rfl dX5_writePart_19 ?_
        refine lv_iload hx hb dX5_writePart_22 (lv_at hl 0 rfl) ?_
        have hPc := hP.sub (ws' := (iU cI 80 (o 3) (rL6 3) (nL6 3) (zL6 3) (FL6 3))) [8, 9] rfl
        refine xk_pure (va_runV (As := [.int (iz k)]) (rest := []) ⟨hx, hb, hml, hown, hts⟩ (x_get l dC dI cI cB cE 80 (o 3) (rL6 3) (nL6 3) (zL6 3) (FL6 3) k H.size (by omega) (hRLL6.1.2.2.1 3) (by omega) (by omega)) (cwV 1 hts (kx_gV kq_18_xrows_41 kq_13_xints_4 kq_13_xints_5 kq_13_xints_6 kq_13_xints_7 rfl) rfl rfl rfl (by decide +kernel) ⟨Nat.le_of_ble_eq_true rfl, Nat.le_of_ble_eq_true rfl⟩) ⟨pPre_blind, va_recv hK hPc (ci := 1) (q0 := 0) rfl rfl, pPre_give hPc hK hG⟩ rfl rfl hl.1 rfl (lv_room (Nat.le_of_ble_eq_true rfl)) dX5_writePart_24 ⟨show cv + 0 ≤ 200 from (by omega), show sv + 0 ≤ 85000 from (by omega)⟩) hS (fun z_6 locs hq_5 hS => ?_)
        refine W.eq (g2 := F0 m 27 ls [.int (iz z_6)]) rfl ?_
        try dsimp only at hq_5
        refine lv_istore (lv' := [(6, .int (iz z_6)), (5, .int (iz k)), (4, .int (iz b)), (0, .ref (o 15)), (1, .int (iz p0)), (2, .int (iz p1)), (3, .int (iz p2))]) hx hb dX5_writePart_27 hl (by decide) rfl (fun ls hl => ?_)
        refine lv_iload hx hb dX5_writePart_29 (lv_at hl 0 rfl) ?_
        refine lv_bipush (v := iz 124) hx hb dX5_writePart_31 (by decide) ?_
        refine ki_icmp_ne (tgt := 42) hx hb dX5_writePart_33 (by decide) (by omega) (by omega) (by omega) (by omega) (fun c_7 => ?_) (fun c_7 => ?_)
        · skip
          refine lv_iload hx hb dX5_writePart_42 (lv_at hl 0 rfl) ?_
          refine lv_bipush (v := iz 37) hx hb dX5_writePart_44 (by decide) ?_
          refine ki_icmp_ne (tgt := 85) hx hb dX5_writePart_46 (by decide) (by omega) (by omega) (by omega) (by omega) (fun c_8 => ?_) (fun c_8 => ?_)
          · skip
            refine lv_iload hx hb dX5_writePart_85 (lv_at hl 2 rfl) ?_
            refine lv_iload_n hx hb dX5_writePart_87 rfl (lv_at hl 4 rfl) ?_
            refine ki_icmp_ne (tgt := 100) hx hb dX5_writePart_88 (by decide) (by omega) (by omega) (by omega) (by omega) (fun c_9 => ?_) (fun c_9 => ?_)
            · skip
              refine lv_iinc (v := iz (k + 1)) (lv' := [(5, .int (iz (k + 1))), (6, .int (iz z_6)), (4, .int (iz b)), (0, .ref (o 15)), (1, .int (iz p0)), (2, .int (iz p1)), (3, .int (iz p2))]) hx hb dX5_writePart_100 hl (k := 1) rfl (iz_add k 1) (by decide) rfl (fun ls hl => ?_)
              refine lv_goto (tgt := 6) hx hb dX5_writePart_103 (by decide) ?_
              exact ih6 b (k + 1) rL6 nL6 zL6 FL6 ErL6 EnL6 EzL6 EFL6 cv sv ⟨⟨hRLL6.1, hRLL6.2.1, hRLL6.2.2.1, hRLL6.2.2.2⟩, ⟨by omega, by omega⟩, (show zL6 12 = z 12 by omega), by omega, by omega⟩ (by omega) _ _ hP hD hS ls (lv_sub hl [0, 2, 3, 4, 5, 6] rfl)
            · skip
              refine lv_aload_n hx hb dX5_writePart_91 rfl (lv_at hl 3 rfl) ?_
              refine va_get (D := (dC, dI)) (ci := 5) (v := .ref (o 11)) (C := RX5) (T := TX5) (N := 16) hx hb hts kt_X5 hown hK hP 0 rfl rfl 15 (by decide) (kx_word hG kq_19_xouts_60 rfl) (fun _ h9 => h9) rfl dX5_writePart_92 ?_
              refine lv_iload hx hb dX5_writePart_95 (lv_at hl 0 rfl) ?_
              have hxp_10 : 0 ≤ zL6 11 ∧ zL6 11 ≤ ((nL6 11 : Nat) : Int) ∧ (nL6 11 = 0 ∨ nL6 11 = 6000) := hRLL6.1.2.1 11 (by decide)
              have hxz_11 : -2147483648 ≤ zL6 23 ∧ zL6 23 < 2147483648 := hRLL6.1.2.2.2.1 23
              have hxb_12 : zL6 23 = 0 ∨ zL6 23 = 1 := hRLL6.1.2.2.2.2 23 (by decide)
              have hPc := hP.sub (ws' := (pU cB (o 11) (rL6 11) (nL6 11) (zL6 11) (zL6 23) (FL6 11))) [27, 28] rfl
              have hDc := hD.sub (ws' := (pU cB (o 11) (rL6 11) (nL6 11) (zL6 11) (zL6 23) (FL6 11))) [27, 28] (by decide) rfl
              have hFc := va_free (wc := (pU cB (o 11) (rL6 11) (nL6 11) (zL6 11) (zL6 23) (FL6 11))) hD hS hA [27, 28] rfl
              refine xk_call (va_runV (As := [.int (iz z_6)]) (rest := []) ⟨hx, hb, hml, hown, hts⟩ (x_put l dC dI cI cB cE (o 11) (rL6 11) (nL6 11) (zL6 11) (zL6 23) (FL6 11) z_6 H.size (by omega) (by omega) (hRLL6.1.2.2.1 11) (by omega) (by omega)) (cwV 1 hts (kx_gV kq_19_xouts_65 kq_15_xspan_15 kq_15_xspan_16 kq_15_xspan_17 kq_15_xspan_18 rfl) rfl rfl rfl (by decide +kernel) ⟨Nat.le_of_ble_eq_true rfl, Nat.le_of_ble_eq_true rfl⟩) ⟨kx_blind, va_recv hK hPc (ci := 2) (q0 := 0) rfl rfl, kx_give (ws := []) (tys := []) hPc hDc hK hG hZ hS hFc⟩ rfl rfl hl.1 rfl (lv_room (Nat.le_of_ble_eq_true rfl)) dX5_writePart_97 ⟨show cv + 0 ≤ 200 from (by omega), show sv + 0 ≤ 85000 from (by omega)⟩) hS (fun q _ h => hFc q h) hFc (fun u dn_14 dm_15 t H locs ht hvm hq_13 hB hk1 hS => ?_)
              obtain ⟨z_16, tl_17, F_18⟩ := u
              obtain ⟨hP1, hK1, hD1⟩ := hB
              rw [ht] at hP1
              obtain ⟨hP, hD⟩ := xj_pool (wr := [(o 15, .inr (5, [.ref (o 16), .ref (Eo 0 0), .int (iz (zL6 12)), .int (iz (zL6 13)), .int (iz (zL6 14)), .ref (o 0), .ref (o 1), .int (iz (zL6 15)), .ref (o 13), .ref (o 14), .int (iz (zL6 16)), .ref (o 2), .ref (o 12), .ref (o 3), .ref (o 10), .ref (o 11)])), (o 16, .inl (cE, 80, .inr (.inr (.inr (.inr G))))), (o 0, .inr (1, [.int (iz 80), .ref (rL6 0), .int (iz (zL6 0))])), (rL6 0, .inl (cI, nL6 0, .inl (iA (FL6 0)))), (o 1, .inr (1, [.int (iz 80), .ref (rL6 1), .int (iz (zL6 1))])), (rL6 1, .inl (cI, nL6 1, .inl (iA (FL6 1)))), (o 2, .inr (1, [.int (iz 80), .ref (rL6 2), .int (iz (zL6 2))])), (rL6 2, .inl (cI, nL6 2, .inl (iA (FL6 2)))), (o 3, .inr (1, [.int (iz 80), .ref (rL6 3), .int (iz (zL6 3))])), (rL6 3, .inl (cI, nL6 3, .inl (iA (FL6 3)))), (o 13, .inr (3, [.ref (o 4), .ref (o 5), .ref (o 6)])), (o 4, .inr (1, [.int (iz 1600), .ref (rL6 4), .int (iz (zL6 4))])), (rL6 4, .inl (cI, nL6 4, .inl (iA (FL6 4)))), (o 5, .inr (1, [.int (iz 1600), .ref (rL6 5), .int (iz (zL6 5))])), (rL6 5, .inl (cI, nL6 5, .inl (iA (FL6 5)))), (o 6, .inr (1, [.int (iz 1600), .ref (rL6 6), .int (iz (zL6 6))])), (rL6 6, .inl (cI, nL6 6, .inl (iA (FL6 6)))), (o 14, .inr (3, [.ref (o 7), .ref (o 8), .ref (o 9)])), (o 7, .inr (1, [.int (iz 1600), .ref (rL6 7), .int (iz (zL6 7))])), (rL6 7, .inl (cI, nL6 7, .inl (iA (FL6 7)))), (o 8, .inr (1, [.int (iz 1600), .ref (rL6 8), .int (iz (zL6 8))])), (rL6 8, .inl (cI, nL6 8, .inl (iA (FL6 8)))), (o 9, .inr (1, [.int (iz 1600), .ref (rL6 9), .int (iz (zL6 9))])), (rL6 9, .inl (cI, nL6 9, .inl (iA (FL6 9)))), (o 12, .inr (4, [.int (iz (zL6 17)), .int (iz (zL6 18)), .int (iz (zL6 19)), .int (iz (zL6 20)), .int (iz (zL6 21))])), (o 10, .inr (2, [.ref (rL6 10), .int (iz (zL6 10)), .int (iz (zL6 22))])), (rL6 10, .inl (cB, nL6 10, .inl (iA (FL6 10))))]) (w1 := (pU cB (o 11) (rL6 11) (nL6 11) z_16 tl_17 F_18)) (ws' := (xU cI cB cE o rL6 nL6 (va_up (va_up zL6 11 z_16) 23 tl_17) (va_up FL6 11 F_18) G (Eo 0 0))) hP hD [27, 28] [0, 1, 2, 3, 4, 5, 6, 7, 8, 9, 10, 11, 12, 13, 14, 15, 16, 17, 18, 19, 20, 21, 22, 23, 24, 25, 26] [0, 1, 2, 3, 4, 5, 6, 7, 8, 9, 10, 11, 12, 13, 14, 15, 16, 17, 18, 19, 20, 21, 22, 23, 24, 25, 26, 27, 28] rfl rfl (by decide) (by decide) hk1 hFc hP1 hD1 rfl (by decide)
              refine W.eq (g2 := F0 m 100 ls []) rfl ?_
              try dsimp only at hq_13
              obtain ⟨hd19, hm19, hz19, ht19, hF19⟩ := hq_13
              subst hd19
              subst hm19
              refine lv_iinc (v := iz (k + 1)) (lv' := [(5, .int (iz (k + 1))), (6, .int (iz z_6)), (4, .int (iz b)), (0, .ref (o 15)), (1, .int (iz p0)), (2, .int (iz p1)), (3, .int (iz p2))]) hx hb dX5_writePart_100 hl (k := 1) rfl (iz_add k 1) (by decide) rfl (fun ls hl => ?_)
              refine lv_goto (tgt := 6) hx hb dX5_writePart_103 (by decide) ?_
              have hok20 : xOk (va_up nL6 11 (nL6 11)) (va_up (va_up zL6 11 z_16) 23 tl_17) (va_up FL6 11 F_18) := ((hRLL6.1.p 11 (by decide) (show 0 ≤ z_16 ∧ z_16 ≤ ((nL6 11 : Nat) : Int) ∧ (nL6 11 = 0 ∨ nL6 11 = 6000) by omega) hF19).s 23 (by decide) (show -2147483648 ≤ tl_17 ∧ tl_17 < 2147483648 by omega) (by omega))
              have hfr20 : xFr [11, 23] [11] z F (va_up (va_up zL6 11 z_16) 23 tl_17) (va_up FL6 11 F_18) := (((hRLL6.2.1.uz 11 (by decide) _).uz 23 (by decide) _).uf 11 (by decide) _)
              have hcg20 : (0) + xg (va_up nL6 11 (nL6 11)) ≤ xg nL6 := by unfold xg; simp (decide := true) only [va_ev, ↓reduceIte]; omega
              have hcp20 : (0) + xp (va_up nL6 11 (nL6 11)) ≤ xp nL6 := by unfold xp; simp (decide := true) only [va_ev, ↓reduceIte]; omega
              exact ih6 b (k + 1) rL6 (va_up nL6 11 (nL6 11)) (va_up (va_up zL6 11 z_16) 23 tl_17) (va_up FL6 11 F_18) ErL6 EnL6 EzL6 EFL6 (cv + 0) (sv + 0) ⟨⟨hok20, hfr20, hRLL6.2.2.1, hRLL6.2.2.2⟩, ⟨by omega, by omega⟩, (show zL6 12 = z 12 by omega), by omega, by omega⟩ (by omega) _ _ hP hD hS ls (lv_sub hl [0, 2, 3, 4, 5, 6] rfl)
          · skip
            refine lv_iinc (v := iz (k + 1)) (lv' := [(5, .int (iz (k + 1))), (6, .int (iz z_6)), (4, .int (iz b)), (0, .ref (o 15)), (1, .int (iz p0)), (2, .int (iz p1)), (3, .int (iz p2))]) hx hb dX5_writePart_49 hl (k := 1) rfl (iz_add k 1) (by decide) rfl (fun ls hl => ?_)
            refine lv_iload hx hb dX5_writePart_52 (lv_at hl 2 rfl) ?_
            refine lv_iload_n hx hb dX5_writePart_54 rfl (lv_at hl 4 rfl) ?_
            refine ki_icmp_ne (tgt := 100) hx hb dX5_writePart_55 (by decide) (by omega) (by omega) (by omega) (by omega) (fun c_21 => ?_) (fun c_21 => ?_)
            · skip
              refine lv_iinc (v := iz ((k + 1) + 1)) (lv' := [(5, .int (iz ((k + 1) + 1))), (6, .int (iz z_6)), (4, .int (iz b)), (0, .ref (o 15)), (1, .int (iz p0)), (2, .int (iz p1)), (3, .int (iz p2))]) hx hb dX5_writePart_100 hl (k := 0) rfl (iz_add (k + 1) 1) (by decide) rfl (fun ls hl => ?_)
              refine lv_goto (tgt := 6) hx hb dX5_writePart_103 (by decide) ?_
              exact ih6 b ((k + 1) + 1) rL6 nL6 zL6 FL6 ErL6 EnL6 EzL6 EFL6 cv sv ⟨⟨hRLL6.1, hRLL6.2.1, hRLL6.2.2.1, hRLL6.2.2.2⟩, ⟨by omega, by omega⟩, (show zL6 12 = z 12 by omega), by omega, by omega⟩ (by omega) _ _ hP hD hS ls (lv_sub hl [0, 2, 3, 4, 5, 6] rfl)
            · skip
              refine lv_aload_n hx hb dX5_writePart_58 rfl (lv_at hl 3 rfl) ?_
              refine lv_aload_n hx hb dX5_writePart_59 rfl (lv_at hl 3 rfl) ?_
              refine va_get (D := (dC, dI)) (ci := 5) (v := .ref (o 3)) (C := RX5) (T := TX5) (N := 16) hx hb hts kt_X5 hown hK hP 0 rfl rfl 13 (by decide) (kx_word hG kq_19_xouts_56 rfl) (fun _ h9 => h9) rfl dX5_writePart_60 ?_
              refine lv_iload hx hb dX5_writePart_63 (lv_at hl 0 rfl) ?_
              have hPc := hP.sub (ws' := (iU cI 80 (o 3) (rL6 3) (nL6 3) (zL6 3) (FL6 3))) [8, 9] rfl
              refine xk_pure (va_runV (As := [.int (iz (k + 1))]) (rest := [.ref (o 15)]) ⟨hx, hb, hml, hown, hts⟩ (x_get l dC dI cI cB cE 80 (o 3) (rL6 3) (nL6 3) (zL6 3) (FL6 3) (k + 1) H.size (by omega) (hRLL6.1.2.2.1 3) (by omega) (by omega)) (cwV 1 hts (kx_gV kq_18_xrows_41 kq_13_xints_4 kq_13_xints_5 kq_13_xints_6 kq_13_xints_7 rfl) rfl rfl rfl (by decide +kernel) ⟨Nat.le_of_ble_eq_true rfl, Nat.le_of_ble_eq_true rfl⟩) ⟨pPre_blind, va_recv hK hPc (ci := 1) (q0 := 0) rfl rfl, pPre_give hPc hK hG⟩ rfl rfl hl.1 rfl (lv_room (Nat.le_of_ble_eq_true rfl)) dX5_writePart_65 ⟨show cv + 0 ≤ 200 from (by omega), show sv + 0 ≤ 85000 from (by omega)⟩) hS (fun z_23 locs hq_22 hS => ?_)
              refine W.eq (g2 := F0 m 68 ls [.int (iz z_23), .ref (o 15)]) rfl ?_
              try dsimp only at hq_22
              refine lv_iload_n hx hb dX5_writePart_68 rfl (lv_at hl 4 rfl) ?_
              refine ki_if_le (tgt := 76) hx hb dX5_writePart_69 (by decide) (by omega) (by omega) (fun c_24 => ?_) (fun c_24 => ?_)
              · skip
                refine lv_iconst (v := iz 0) hx hb dX5_writePart_76 (by decide) ?_
                refine lv_iload_n hx hb dX5_writePart_77 rfl (lv_at hl 5 rfl) ?_
                refine lv_iload_n hx hb dX5_writePart_78 rfl (lv_at hl 6 rfl) ?_
                have hxz_25 : -2147483648 ≤ zL6 12 ∧ zL6 12 < 2147483648 := hRLL6.1.2.2.2.1 12
                have hxG9 : xG N (zL6 12) G Eo := ⟨by omega, by omega, by omega, fun e9 h9 => hN4 e9 (by omega)⟩
                have hP : va_P (dC, dI) kxCl (xU cI cB cE o rL6 nL6 zL6 FL6 G (Eo 0 0) ++ eP cI N Eo ErL6 EnL6 EzL6 EFL6) H := hP
                have hD : va_D A (xU cI cB cE o rL6 nL6 zL6 FL6 G (Eo 0 0) ++ eP cI N Eo ErL6 EnL6 EzL6 EFL6) := hD
                have hFc := xw_free hD hS hA
                refine xk_call (va_runV (As := [.int (iz z_23), .int (iz 0), .int (iz p1), .int (iz p2)]) (rest := []) ⟨hx, hb, hml, hown, hts⟩ (y_writeMark l dC dI cI cB cE o rL6 nL6 zL6 FL6 G N Eo ErL6 EnL6 EzL6 EFL6 z_23 0 p1 p2 H.size hRLL6.1 hxG9 hRLL6.2.2.1 (by omega) (by omega) (by omega) (by omega) (by omega) (by omega) (by omega)) (cwV 4 hts (kx_gV kq_19_xouts_83 kq_19_xouts_84 kq_19_xouts_85 kq_18_xrows_4 kq_19_xouts_86 rfl) rfl rfl rfl (by decide +kernel) ⟨Nat.le_of_ble_eq_true rfl, Nat.le_of_ble_eq_true rfl⟩) ⟨kx_blind, va_recv hK hP (ci := 5) (q0 := 0) rfl rfl, kx_give (ws := []) (tys := []) hP hD hK hG hZ hS hFc⟩ rfl rfl hl.1 rfl (lv_room (Nat.le_of_ble_eq_true rfl)) dX5_writePart_79 ⟨show cv + 100 ≤ 200 from (by omega), show sv + 42000 ≤ 85000 from (by omega)⟩) hS (fun q _ h => hFc q h) hFc (fun u dn_28 dm_29 t H locs ht hvm hq_26 hB hk1 hS => ?_)
                obtain ⟨r_30, n_31, z_32, F_33, Er_34, En_35, Ez_36, EF_37⟩ := u
                obtain ⟨hP, hK1, hD1⟩ := hB
                rw [ht] at hP
                have hD := hD1.weaken (fun _ q _ h => hFc _ h)
                obtain ⟨hR38, hC38, hq_26⟩ := hq_26
                have hok38 := hR38.1
                have hfr38 := hRLL6.2.1.tr (hR38.2.1.mono (S' := [11, 23]) (T' := [11]) (by decide) (by decide))
                have hPE38 := hR38.2.2.1
                have hef38 := hRLL6.2.2.2.tr (hR38.2.2.2.mono (S' := []) (T' := []) (by decide) (by decide))
                have hz38 : z_32 12 = (zL6 12) := hR38.2.1.1 12 (by decide)
                have hkz38_3 : z_32 3 = z 3 := hfr38.1 3 (by decide)
                refine W.eq (g2 := F0 m 82 ls []) rfl ?_
                try dsimp only at hq_26
                refine lv_goto (tgt := 100) hx hb dX5_writePart_82 (by decide) ?_
                refine lv_iinc (v := iz ((k + 1) + 1)) (lv' := [(5, .int (iz ((k + 1) + 1))), (6, .int (iz z_6)), (4, .int (iz b)), (0, .ref (o 15)), (1, .int (iz p0)), (2, .int (iz p1)), (3, .int (iz p2))]) hx hb dX5_writePart_100 hl (k := 0) rfl (iz_add (k + 1) 1) (by decide) rfl (fun ls hl => ?_)
                refine lv_goto (tgt := 6) hx hb dX5_writePart_103 (by decide) ?_
                exact ih6 b ((k + 1) + 1) r_30 n_31 z_32 F_33 Er_34 En_35 Ez_36 EF_37 (cv + dn_28) (sv + dm_29) ⟨⟨hok38, hfr38, hPE38, hef38⟩, ⟨by omega, by omega⟩, (show z_32 12 = z 12 by omega), by omega, by omega⟩ (by omega) _ _ hP hD hS ls (lv_sub hl [0, 2, 3, 4, 5, 6] rfl)
              · skip
                refine lv_iconst (v := iz 1) hx hb dX5_writePart_72 (by decide) ?_
                refine lv_goto (tgt := 77) hx hb dX5_writePart_73 (by decide) ?_
                refine lv_iload_n hx hb dX5_writePart_77 rfl (lv_at hl 5 rfl) ?_
                refine lv_iload_n hx hb dX5_writePart_78 rfl (lv_at hl 6 rfl) ?_
                have hxz_39 : -2147483648 ≤ zL6 12 ∧ zL6 12 < 2147483648 := hRLL6.1.2.2.2.1 12
                have hxG9 : xG N (zL6 12) G Eo := ⟨by omega, by omega, by omega, fun e9 h9 => hN4 e9 (by omega)⟩
                have hP : va_P (dC, dI) kxCl (xU cI cB cE o rL6 nL6 zL6 FL6 G (Eo 0 0) ++ eP cI N Eo ErL6 EnL6 EzL6 EFL6) H := hP
                have hD : va_D A (xU cI cB cE o rL6 nL6 zL6 FL6 G (Eo 0 0) ++ eP cI N Eo ErL6 EnL6 EzL6 EFL6) := hD
                have hFc := xw_free hD hS hA
                refine xk_call (va_runV (As := [.int (iz z_23), .int (iz 1), .int (iz p1), .int (iz p2)]) (rest := []) ⟨hx, hb, hml, hown, hts⟩ (y_writeMark l dC dI cI cB cE o rL6 nL6 zL6 FL6 G N Eo ErL6 EnL6 EzL6 EFL6 z_23 1 p1 p2 H.size hRLL6.1 hxG9 hRLL6.2.2.1 (by omega) (by omega) (by omega) (by omega) (by omega) (by omega) (by omega)) (cwV 4 hts (kx_gV kq_19_xouts_83 kq_19_xouts_84 kq_19_xouts_85 kq_18_xrows_4 kq_19_xouts_86 rfl) rfl rfl rfl (by decide +kernel) ⟨Nat.le_of_ble_eq_true rfl, Nat.le_of_ble_eq_true rfl⟩) ⟨kx_blind, va_recv hK hP (ci := 5) (q0 := 0) rfl rfl, kx_give (ws := []) (tys := []) hP hD hK hG hZ hS hFc⟩ rfl rfl hl.1 rfl (lv_room (Nat.le_of_ble_eq_true rfl)) dX5_writePart_79 ⟨show cv + 100 ≤ 200 from (by omega), show sv + 42000 ≤ 85000 from (by omega)⟩) hS (fun q _ h => hFc q h) hFc (fun u dn_42 dm_43 t H locs ht hvm hq_40 hB hk1 hS => ?_)
                obtain ⟨r_44, n_45, z_46, F_47, Er_48, En_49, Ez_50, EF_51⟩ := u
                obtain ⟨hP, hK1, hD1⟩ := hB
                rw [ht] at hP
                have hD := hD1.weaken (fun _ q _ h => hFc _ h)
                obtain ⟨hR52, hC52, hq_40⟩ := hq_40
                have hok52 := hR52.1
                have hfr52 := hRLL6.2.1.tr (hR52.2.1.mono (S' := [11, 23]) (T' := [11]) (by decide) (by decide))
                have hPE52 := hR52.2.2.1
                have hef52 := hRLL6.2.2.2.tr (hR52.2.2.2.mono (S' := []) (T' := []) (by decide) (by decide))
                have hz52 : z_46 12 = (zL6 12) := hR52.2.1.1 12 (by decide)
                have hkz52_3 : z_46 3 = z 3 := hfr52.1 3 (by decide)
                refine W.eq (g2 := F0 m 82 ls []) rfl ?_
                try dsimp only at hq_40
                refine lv_goto (tgt := 100) hx hb dX5_writePart_82 (by decide) ?_
                refine lv_iinc (v := iz ((k + 1) + 1)) (lv' := [(5, .int (iz ((k + 1) + 1))), (6, .int (iz z_6)), (4, .int (iz b)), (0, .ref (o 15)), (1, .int (iz p0)), (2, .int (iz p1)), (3, .int (iz p2))]) hx hb dX5_writePart_100 hl (k := 0) rfl (iz_add (k + 1) 1) (by decide) rfl (fun ls hl => ?_)
                refine lv_goto (tgt := 6) hx hb dX5_writePart_103 (by decide) ?_
                exact ih6 b ((k + 1) + 1) r_44 n_45 z_46 F_47 Er_48 En_49 Ez_50 EF_51 (cv + dn_42) (sv + dm_43) ⟨⟨hok52, hfr52, hPE52, hef52⟩, ⟨by omega, by omega⟩, (show z_46 12 = z 12 by omega), by omega, by omega⟩ (by omega) _ _ hP hD hS ls (lv_sub hl [0, 2, 3, 4, 5, 6] rfl)
        · skip
          refine lv_iinc (v := iz (b + 1)) (lv' := [(4, .int (iz (b + 1))), (6, .int (iz z_6)), (5, .int (iz k)), (0, .ref (o 15)), (1, .int (iz p0)), (2, .int (iz p1)), (3, .int (iz p2))]) hx hb dX5_writePart_36 hl (k := 2) rfl (iz_add b 1) (by decide) rfl (fun ls hl => ?_)
          refine lv_goto (tgt := 100) hx hb dX5_writePart_39 (by decide) ?_
          refine lv_iinc (v := iz (k + 1)) (lv' := [(5, .int (iz (k + 1))), (4, .int (iz (b + 1))), (6, .int (iz z_6)), (0, .ref (o 15)), (1, .int (iz p0)), (2, .int (iz p1)), (3, .int (iz p2))]) hx hb dX5_writePart_100 hl (k := 2) rfl (iz_add k 1) (by decide) rfl (fun ls hl => ?_)
          refine lv_goto (tgt := 6) hx hb dX5_writePart_103 (by decide) ?_
          exact ih6 (b + 1) (k + 1) rL6 nL6 zL6 FL6 ErL6 EnL6 EzL6 EFL6 cv sv ⟨⟨hRLL6.1, hRLL6.2.1, hRLL6.2.2.1, hRLL6.2.2.2⟩, ⟨by omega, by omega⟩, (show zL6 12 = z 12 by omega), by omega, by omega⟩ (by omega) _ _ hP hD hS ls (lv_sub hl [0, 1, 3, 4, 5, 6] rfl)
  exact lp6 _ 0 0 r n z F Er En Ez EF 0 0 ⟨⟨hok, hfr, hPE, hef⟩, ⟨by omega, by omega⟩, (show z 12 = z 12 by omega), by omega, by omega⟩ (Nat.lt_succ_self _) _ _ hP hD hS ls (lv_sub hl [0, 1, 2, 3, 4, 5] rfl)
