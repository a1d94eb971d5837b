/-! the landed object: its public calls -/
theorem kq_21_xcalls_0 : (Cond.constant RX5 234 99999) ∈ lw_tbl := by decide +kernel
theorem kq_21_xcalls_1 : (Cond.methodLink RX5 114 yX1_isFull) ∈ lw_tbl := by decide +kernel
theorem kq_21_xcalls_2 : (Cond.methodLink RX5 160 yX5_makeKeys) ∈ lw_tbl := by decide +kernel
theorem kq_21_xcalls_3 : (Cond.instanceMethod yX5_makeKeys) ∈ lw_tbl := by decide +kernel
theorem kq_21_xcalls_4 : (Cond.selects RX5 yX5_makeKeys yX5_makeKeys) ∈ lw_tbl := by decide +kernel
theorem kq_21_xcalls_5 : (Cond.code yX5_makeKeys cX5_makeKeys 2 none) ∈ lw_tbl := by decide +kernel
theorem kq_21_xcalls_6 : (Cond.methodLink RX5 101 yX5_forgetRows) ∈ lw_tbl := by decide +kernel
theorem kq_21_xcalls_7 : (Cond.instanceMethod yX5_forgetRows) ∈ lw_tbl := by decide +kernel
theorem kq_21_xcalls_8 : (Cond.selects RX5 yX5_forgetRows yX5_forgetRows) ∈ lw_tbl := by decide +kernel
theorem kq_21_xcalls_9 : (Cond.code yX5_forgetRows cX5_forgetRows 1 none) ∈ lw_tbl := by decide +kernel
theorem kq_21_xcalls_10 : (Cond.methodLink RX5 104 yX5_needEntry) ∈ lw_tbl := by decide +kernel
theorem kq_21_xcalls_11 : (Cond.instanceMethod yX5_needEntry) ∈ lw_tbl := by decide +kernel
theorem kq_21_xcalls_12 : (Cond.selects RX5 yX5_needEntry yX5_needEntry) ∈ lw_tbl := by decide +kernel
theorem kq_21_xcalls_13 : (Cond.code yX5_needEntry cX5_needEntry 2 none) ∈ lw_tbl := by decide +kernel
theorem kq_21_xcalls_14 : (Cond.methodLink RX5 118 yX0_addSign) ∈ lw_tbl := by decide +kernel
theorem kq_21_xcalls_15 : (Cond.instanceMethod yX0_addSign) ∈ lw_tbl := by decide +kernel
theorem kq_21_xcalls_16 : (Cond.selects RX0 yX0_addSign yX0_addSign) ∈ lw_tbl := by decide +kernel
theorem kq_21_xcalls_17 : (Cond.code yX0_addSign cX0_addSign 2 none) ∈ lw_tbl := by decide +kernel
theorem kq_21_xcalls_18 : (Cond.methodLink RX5 129 yX5_lastOf) ∈ lw_tbl := by decide +kernel
theorem kq_21_xcalls_19 : (Cond.static yX5_lastOf) ∈ lw_tbl := by decide +kernel
theorem kq_21_xcalls_20 : (Cond.code yX5_lastOf cX5_lastOf 1 (some .int)) ∈ lw_tbl := by decide +kernel
theorem kq_21_xcalls_21 : (Cond.methodLink RX5 136 yX3_isFull) ∈ lw_tbl := by decide +kernel
theorem kq_21_xcalls_22 : (Cond.instanceMethod yX3_isFull) ∈ lw_tbl := by decide +kernel
theorem kq_21_xcalls_23 : (Cond.selects RX3 yX3_isFull yX3_isFull) ∈ lw_tbl := by decide +kernel
theorem kq_21_xcalls_24 : (Cond.code yX3_isFull cX3_isFull 1 (some .boolean)) ∈ lw_tbl := by decide +kernel
theorem kq_21_xcalls_25 : (Cond.methodLink RX5 163 yX5_findRows) ∈ lw_tbl := by decide +kernel
theorem kq_21_xcalls_26 : (Cond.instanceMethod yX5_findRows) ∈ lw_tbl := by decide +kernel
theorem kq_21_xcalls_27 : (Cond.selects RX5 yX5_findRows yX5_findRows) ∈ lw_tbl := by decide +kernel
theorem kq_21_xcalls_28 : (Cond.code yX5_findRows cX5_findRows 2 none) ∈ lw_tbl := by decide +kernel
theorem kq_21_xcalls_29 : (Cond.methodLink RX5 175 yX5_findLocators) ∈ lw_tbl := by decide +kernel
theorem kq_21_xcalls_30 : (Cond.instanceMethod yX5_findLocators) ∈ lw_tbl := by decide +kernel
theorem kq_21_xcalls_31 : (Cond.selects RX5 yX5_findLocators yX5_findLocators) ∈ lw_tbl := by decide +kernel
theorem kq_21_xcalls_32 : (Cond.code yX5_findLocators cX5_findLocators 3 none) ∈ lw_tbl := by decide +kernel
theorem kq_21_xcalls_33 : (Cond.methodLink RX5 178 yX5_findSeen) ∈ lw_tbl := by decide +kernel
theorem kq_21_xcalls_34 : (Cond.instanceMethod yX5_findSeen) ∈ lw_tbl := by decide +kernel
theorem kq_21_xcalls_35 : (Cond.selects RX5 yX5_findSeen yX5_findSeen) ∈ lw_tbl := by decide +kernel
theorem kq_21_xcalls_36 : (Cond.code yX5_findSeen cX5_findSeen 3 none) ∈ lw_tbl := by decide +kernel
theorem kq_21_xcalls_37 : (Cond.methodLink RX5 181 yX5_groupOf) ∈ lw_tbl := by decide +kernel
theorem kq_21_xcalls_38 : (Cond.instanceMethod yX5_groupOf) ∈ lw_tbl := by decide +kernel
theorem kq_21_xcalls_39 : (Cond.selects RX5 yX5_groupOf yX5_groupOf) ∈ lw_tbl := by decide +kernel
theorem kq_21_xcalls_40 : (Cond.code yX5_groupOf cX5_groupOf 4 (some .int)) ∈ lw_tbl := by decide +kernel
theorem kq_21_xcalls_41 : (Cond.methodLink RX5 194 yX5_countByRows) ∈ lw_tbl := by decide +kernel
theorem kq_21_xcalls_42 : (Cond.instanceMethod yX5_countByRows) ∈ lw_tbl := by decide +kernel
theorem kq_21_xcalls_43 : (Cond.selects RX5 yX5_countByRows yX5_countByRows) ∈ lw_tbl := by decide +kernel
theorem kq_21_xcalls_44 : (Cond.code yX5_countByRows cX5_countByRows 4 none) ∈ lw_tbl := by decide +kernel
theorem kq_21_xcalls_45 : (Cond.methodLink RX5 197 yX4_lookFor) ∈ lw_tbl := by decide +kernel
theorem kq_21_xcalls_46 : (Cond.instanceMethod yX4_lookFor) ∈ lw_tbl := by decide +kernel
theorem kq_21_xcalls_47 : (Cond.selects RX4 yX4_lookFor yX4_lookFor) ∈ lw_tbl := by decide +kernel
theorem kq_21_xcalls_48 : (Cond.code yX4_lookFor cX4_lookFor 2 none) ∈ lw_tbl := by decide +kernel
theorem kq_21_xcalls_49 : (Cond.fieldLinkNest RX5 203 "IndexSort$Warnings" "count" "I" "IndexSort") ∈ lw_tbl := by decide +kernel
theorem kq_21_xcalls_50 : (Cond.fieldLinkNest RX5 212 "IndexSort$Warnings" "number" "I" "IndexSort") ∈ lw_tbl := by decide +kernel
theorem kq_21_xcalls_51 : (Cond.fieldLinkNest RX5 209 "IndexSort$Warnings" "entry" "I" "IndexSort") ∈ lw_tbl := by decide +kernel
theorem kq_21_xcalls_52 : (Cond.fieldLinkNest RX5 206 "IndexSort$Warnings" "kind" "I" "IndexSort") ∈ lw_tbl := by decide +kernel
theorem kq_21_xcalls_53 : (Cond.methodLink RX5 200 yX5_warnOf) ∈ lw_tbl := by decide +kernel
theorem kq_21_xcalls_54 : (Cond.instanceMethod yX5_warnOf) ∈ lw_tbl := by decide +kernel
theorem kq_21_xcalls_55 : (Cond.selects RX5 yX5_warnOf yX5_warnOf) ∈ lw_tbl := by decide +kernel
theorem kq_21_xcalls_56 : (Cond.code yX5_warnOf cX5_warnOf 5 none) ∈ lw_tbl := by decide +kernel
theorem kq_21_xcalls_57 : (Cond.fieldLink RX5 77 "IndexSort" "out" "LIndexSort$Paper;") ∈ lw_tbl := by decide +kernel
theorem kq_21_xcalls_58 : (Cond.methodLink RX5 229 yX2_size) ∈ lw_tbl := by decide +kernel
theorem kq_21_xcalls_59 : (Cond.instanceMethod yX2_size) ∈ lw_tbl := by decide +kernel
theorem kq_21_xcalls_60 : (Cond.selects RX2 yX2_size yX2_size) ∈ lw_tbl := by decide +kernel
theorem kq_21_xcalls_61 : (Cond.code yX2_size cX2_size 1 (some .int)) ∈ lw_tbl := by decide +kernel
theorem kq_21_xcalls_62 : (Cond.methodLink RX5 233 yX2_get) ∈ lw_tbl := by decide +kernel
theorem kq_21_xcalls_63 : (Cond.instanceMethod yX2_get) ∈ lw_tbl := by decide +kernel
theorem kq_21_xcalls_64 : (Cond.selects RX2 yX2_get yX2_get) ∈ lw_tbl := by decide +kernel
theorem kq_21_xcalls_65 : (Cond.code yX2_get cX2_get 2 (some .int)) ∈ lw_tbl := by decide +kernel
theorem kq_21_xcalls_66 : (Cond.methodLink RX5 146 yX0_endRange) ∈ lw_tbl := by decide +kernel
theorem kq_21_xcalls_67 : (Cond.instanceMethod yX0_endRange) ∈ lw_tbl := by decide +kernel
theorem kq_21_xcalls_68 : (Cond.selects RX0 yX0_endRange yX0_endRange) ∈ lw_tbl := by decide +kernel
theorem kq_21_xcalls_69 : (Cond.code yX0_endRange cX0_endRange 2 (some .boolean)) ∈ lw_tbl := by decide +kernel
theorem kq_21_xcalls_70 : (Cond.methodLink RX5 149 yX0_beginRange) ∈ lw_tbl := by decide +kernel
theorem kq_21_xcalls_71 : (Cond.instanceMethod yX0_beginRange) ∈ lw_tbl := by decide +kernel
theorem kq_21_xcalls_72 : (Cond.selects RX0 yX0_beginRange yX0_beginRange) ∈ lw_tbl := by decide +kernel
theorem kq_21_xcalls_73 : (Cond.code yX0_beginRange cX0_beginRange 2 (some .boolean)) ∈ lw_tbl := by decide +kernel
set_option maxHeartbeats 4000000 in
set_option maxRecDepth 100000 in
theorem y_needEntry (l : Launch) (hlf : l.stackTraces = false) (dC : Nat → ClassId) (dI : Nat → Nat → Nat) (cI cB cE : ClassId) (o r n : Nat → Nat) (z : Nat → Int) (F : Nat → Int → Int) (G : Nat → Option Nat) (N : Nat) (Eo Er En : Nat → Nat → Nat) (Ez : Nat → Nat → Int) (EF : Nat → Nat → Int → Int) (p0 : Int) (sz : Nat) (hok : xOk n z F) (hxG : xG N (z 12) G Eo) (hPE : eA N En Ez EF) (hp01 : -2147483648 ≤ p0) (hp02 : p0 < 2147483648) : vx_Met l yX5_needEntry [.code yX5_needEntry cX5_needEntry 2 none] ({ frames := 7, cells := 1, slots := 6, locals := 100 }) (va_Pc [.ref (o 15), .int (iz p0)] (kx_Pre dC dI (xU cI cB cE o r n z F G (Eo 0 0) ++ eP cI N Eo Er En Ez EF) (xT cI cB cE) sz)) (xQ (fun _ : (Nat → Nat) × (Nat → Nat) × (Nat → Int) × (Nat → Int → Int) × (Nat → Nat → Nat) × (Nat → Nat → Nat) × (Nat → Nat → Int) × (Nat → Nat → Int → Int) => none) (fun (u : (Nat → Nat) × (Nat → Nat) × (Nat → Int) × (Nat → Int → Int) × (Nat → Nat → Nat) × (Nat → Nat → Nat) × (Nat → Nat → Int) × (Nat → Nat → Int → Int)) (dn dm : Nat) => match u with | (r', n', z', F', Er', En', Ez', EF') => xR [] [] [] [] N z F En Ez EF n' z' F' En' Ez' EF' ∧ (dn + xg n' ≤ xg n + 0 ∧ dm + xp n' ≤ xp n + 0) ∧ (r = r' ∧ n = n' ∧ F = F' ∧ Er = Er' ∧ En = En' ∧ Ez = Ez' ∧ EF = EF' ∧ z = z' ∧ (0 ≤ p0 ∧ p0 < z 12))) (fun u t => kx_At dC dI (va_A (xU cI cB cE o r n z F G (Eo 0 0) ++ eP cI N Eo Er En Ez EF) sz) ((fun u : (Nat → Nat) × (Nat → Nat) × (Nat → Int) × (Nat → Int → Int) × (Nat → Nat → Nat) × (Nat → Nat → Nat) × (Nat → Nat → Int) × (Nat → Nat → Int → Int) => match u with | (r', n', z', F', Er', En', Ez', EF') => (xU cI cB cE o r' n' z' F' G (Eo 0 0) ++ eP cI N Eo Er' En' Ez' EF')) u) (xT cI cB cE) t) (va_A (xU cI cB cE o r n z F G (Eo 0 0) ++ eP cI N Eo Er En Ez EF) sz)) (yX (fun E => (E = "java/util/NoSuchElementException" ∧ (¬ (0 ≤ p0 ∧ p0 < z 12)))) 1 6 (fun t => ∃ u : (Nat → Nat) × (Nat → Nat) × (Nat → Int) × (Nat → Int → Int) × (Nat → Nat → Nat) × (Nat → Nat → Nat) × (Nat → Nat → Int) × (Nat → Nat → Int → Int), match u with | (r', n', z', F', Er', En', Ez', EF') => xR [] [] [] [] N z F En Ez EF n' z' F' En' Ez' EF' ∧ kx_At dC dI (va_A (xU cI cB cE o r n z F G (Eo 0 0) ++ eP cI N Eo Er En Ez EF) sz) (xU cI cB cE o r' n' z' F' G (Eo 0 0) ++ eP cI N Eo Er' En' Ez' EF') (xT cI cB cE) t) (va_A (xU cI cB cE o r n z F G (Eo 0 0) ++ eP cI N Eo Er En Ez EF) sz)) 1 6 (va_A (xU cI cB cE o r n z F G (Eo 0 0) ++ eP cI N Eo Er En Ez EF) sz) := by
  refine vx_ofW (cc := cX5_needEntry) (maxL := 2) (ret := none) (by decide) rfl ?_
  intro p e s m args below meth c s₁ B hml htab hv
  obtain ⟨rfl, hsz, hP, hK, hD0, hG, hZ⟩ := hv
  have hx := B.exec
  have hb := B.bytes
  have hr := B.returns
  have hts := kx_hts (a := ([.ref (o 15), .int (iz p0)] : List Value).toArray) hG
  have hown : s.vm.findClass RX5 = some m.cls := findClass_of_methodNamed B.named
  have hlocks := B.notSynchronized
  subst hsz
  have hD := hD0.self (sz := s.heap.size)
  generalize hAe : va_A (xU cI cB cE o r n z F G (Eo 0 0) ++ eP cI N Eo Er En Ez EF) s.heap.size = A at hD hZ ⊢
  have hA : ∀ q : Nat, s.heap.size ≤ q → A q := fun q h => by rw [← hAe]; exact Or.inr h
  have hS : va_S A s.heap s.heap [] := va_S.rf
  have hl := lv_entry ([.ref (o 15), .int (iz p0)]) (n := 2) (Nat.le_of_ble_eq_true rfl)
  rw [lg_entry_eq]
  generalize (lg_sl ([.ref (o 15), .int (iz p0)]) ++ List.replicate (2 - (lg_sl ([.ref (o 15), .int (iz p0)])).length) Slot.unset).toArray = ls at hl ⊢
  obtain ⟨hN1, hN2, hN3, hN4⟩ := hxG
  have hef : eFr [] [] En Ez EF En Ez EF := eFr.rf
  have hfr : xFr [] [] z F z F := xFr.rf
  have hxgl := xg_le n
  have hxpl := xp_le n
  have hl : lv_has ls 2 [(0, .ref (o 15)), (1, .int (iz p0))] := hl
  refine lv_aload_n hx hb dX5_needEntry_0 rfl (lv_at hl 0 rfl) ?_
  refine lv_iload_n hx hb dX5_needEntry_1 rfl (lv_at hl 1 rfl) ?_
  have hxz_1 : -2147483648 ≤ z 12 ∧ z 12 < 2147483648 := hok.2.2.2.1 12
  have hxG9 : xG N (z 12) G Eo := ⟨by omega, by omega, by omega, fun e9 h9 => hN4 e9 (by omega)⟩
  have hP : va_P (dC, dI) kxCl (xU cI cB cE o r n z F G (Eo 0 0) ++ eP cI N Eo Er En Ez EF) s.heap := hP
  refine xk_pure (va_runV (As := [.int (iz p0)]) (rest := []) ⟨hx, hb, hml, hown, hts⟩ (y_isEntry l dC dI cI cB cE o r n z F G N Eo Er En Ez EF p0 s.heap.size hok hxG9 hPE (by omega) (by omega)) (cwV 1 hts (kx_gV kq_18_xrows_1 kq_18_xrows_2 kq_18_xrows_3 kq_18_xrows_4 kq_18_xrows_5 rfl) rfl rfl rfl (by decide +kernel) ⟨Nat.le_of_ble_eq_true rfl, Nat.le_of_ble_eq_true rfl⟩) ⟨pPre_blind, va_recv hK hP (ci := 5) (q0 := 0) rfl rfl, pPre_give hP hK hG⟩ rfl rfl hl.1 rfl (lv_room (Nat.le_of_ble_eq_true rfl)) dX5_needEntry_2 ⟨show 0 + 0 ≤ 1 from (by omega), show 0 + 0 ≤ 6 from (by omega)⟩) hS (fun z_3 locs hq_2 hS => ?_)
  refine W.eq (g2 := F0 m 5 ls [.int (iz z_3)]) rfl ?_
  try dsimp only at hq_2
  rcases hq_2 with ⟨rfl, hq_2⟩ | ⟨rfl, hq_2⟩
  · skip
    refine ki_if_ne (tgt := 16) hx hb dX5_needEntry_5 (by decide) (by omega) (by omega) (fun c_4 => ?_) (fun c_4 => ?_)
    · skip
      refine vx_ret ?_
      exact xk_vret (ov := (fun _ : (Nat → Nat) × (Nat → Nat) × (Nat → Int) × (Nat → Int → Int) × (Nat → Nat → Nat) × (Nat → Nat → Nat) × (Nat → Nat → Int) × (Nat → Nat → Int → Int) => none)) (post := (fun (u : (Nat → Nat) × (Nat → Nat) × (Nat → Int) × (Nat → Int → Int) × (Nat → Nat → Nat) × (Nat → Nat → Nat) × (Nat → Nat → Int) × (Nat → Nat → Int → Int)) (dn dm : Nat) => match u with | (r', n', z', F', Er', En', Ez', EF') => xR [] [] [] [] N z F En Ez EF n' z' F' En' Ez' EF' ∧ (dn + xg n' ≤ xg n + 0 ∧ dm + xp n' ≤ xp n + 0) ∧ (r = r' ∧ n = n' ∧ F = F' ∧ Er = Er' ∧ En = En' ∧ Ez = Ez' ∧ EF = EF' ∧ z = z' ∧ (0 ≤ p0 ∧ p0 < z 12)))) (ws := (fun u : (Nat → Nat) × (Nat → Nat) × (Nat → Int) × (Nat → Int → Int) × (Nat → Nat → Nat) × (Nat → Nat → Nat) × (Nat → Nat → Int) × (Nat → Nat → Int → Int) => match u with | (r', n', z', F', Er', En', Ez', EF') => (xU cI cB cE o r' n' z' F' G (Eo 0 0) ++ eP cI N Eo Er' En' Ez' EF'))) (tys := xT cI cB cE) (r, n, z, F, Er, En, Ez, EF) hx hb hr hlocks rfl hP hD hK hS dX5_needEntry_16 (fun dn dm hdn hdm => ⟨⟨hok, hfr, hPE, hef⟩, ⟨by omega, by omega⟩, ⟨rfl, rfl, rfl, rfl, rfl, rfl, rfl, rfl, by omega⟩⟩) (by omega) (by omega)
    · omega
  · skip
    refine ki_if_ne (tgt := 16) hx hb dX5_needEntry_5 (by decide) (by omega) (by omega) (fun c_5 => ?_) (fun c_5 => ?_)
    · omega
    · skip
      exact ky_thr_NSE hx hb hlf hown hG hZ hS (hl.1.trans hml.symm) dX5_needEntry_8 dX5_needEntry_11 dX5_needEntry_12 dX5_needEntry_15 htab (Nat.le_of_ble_eq_true rfl) (Nat.le_of_ble_eq_true rfl) (show 0 + 1 ≤ 1 from (by omega)) (show 0 + 6 ≤ 6 from (by omega)) hlocks (⟨rfl, by first | trivial | omega⟩) (fun t hvm h1 h2 => ⟨(r, n, z, F, Er, En, Ez, EF), ⟨hok, hfr, hPE, hef⟩, hP.kept (fun k q hk => h2 q.1 (hP k q hk).lt), va_K.moved hvm hK, hD⟩) hS.2.2 (by omega) (by omega) (by omega) (by omega)
set_option maxHeartbeats 4000000 in
set_option maxRecDepth 100000 in
theorem x_lastOf (l : Launch) (dC : Nat → ClassId) (dI : Nat → Nat → Nat) (cI cB cE : ClassId) (p0 : Int) (sz : Nat) (hp01 : -2147483648 ≤ p0) (hp02 : p0 < 2147483648) : Met l yX5_lastOf [.code yX5_lastOf cX5_lastOf 1 (some .int)] ({ frames := 0, cells := 0, slots := 0, locals := 0 }) (va_Pc [.int (iz p0)] (pPre dC dI [] (xT cI cB cE) sz)) (pQ (fun z => some (.int (iz z))) (fun (q : Int) => (p0 = 0 ∧ q = 3999) ∨ (p0 = 1 ∧ q = 99999) ∨ (p0 = 2 ∧ q = 702) ∨ (¬ (0 ≤ p0 ∧ p0 ≤ 2) ∧ q = 0))) 0 0 (fun _ => False) := by
  refine Met.ofW (cc := cX5_lastOf) (maxL := 1) (ret := (some .int)) (by decide) rfl ?_
  intro p e s m args below meth c s₁ B hml hv
  obtain ⟨rfl, hsz, hP, hK, hG⟩ := hv
  have hx := B.exec
  have hb := B.bytes
  have hr := B.returns
  have hts := kx_hts (a := ([.int (iz p0)] : List Value).toArray) hG
  have hown : s.vm.findClass RX5 = some m.cls := findClass_of_methodNamed B.named
  have hlocks := B.notSynchronized
  subst hsz
  have hS : va_S (fun _ => False) s.heap s.heap [] := va_S.rf
  have hl := lv_entry ([.int (iz p0)]) (n := 1) (Nat.le_of_ble_eq_true rfl)
  rw [lg_entry_eq]
  generalize (lg_sl ([.int (iz p0)]) ++ List.replicate (1 - (lg_sl ([.int (iz p0)])).length) Slot.unset).toArray = ls at hl ⊢
  have hl : lv_has ls 1 [(0, .int (iz p0))] := hl
  refine lv_iload_n hx hb dX5_lastOf_0 rfl (lv_at hl 0 rfl) ?_
  by_cases hsw_1 : p0 = 0
  · skip
    refine ki_is (show iz (p0) = iz 0 by rw [hsw_1]) ?_
    refine lv_tableIn (off := 27) (tgt := 28) hx hb dX5_lastOf_1 (by decide) (by decide) (by decide) (by decide) ?_
    refine lv_sipush (v := iz 3999) hx hb dX5_lastOf_28 (by decide) ?_
    exact xp_iret (z := 3999) hx hb hr rfl hlocks rfl hS.2.2 dX5_lastOf_31 (by omega)
  by_cases hsw_2 : p0 = 1
  · skip
    refine ki_is (show iz (p0) = iz 1 by rw [hsw_2]) ?_
    refine lv_tableIn (off := 31) (tgt := 32) hx hb dX5_lastOf_1 (by decide) (by decide) (by decide) (by decide) ?_
    refine lv_ldc (v := 99999) hx hb hown (kx_word hG kq_21_xcalls_0 rfl) dX5_lastOf_32 ?_
    refine ki_is (show (99999 : Int32) = iz 99999 by decide) ?_
    exact xp_iret (z := 99999) hx hb hr rfl hlocks rfl hS.2.2 dX5_lastOf_34 (by omega)
  by_cases hsw_3 : p0 = 2
  · skip
    refine ki_is (show iz (p0) = iz 2 by rw [hsw_3]) ?_
    refine lv_tableIn (off := 34) (tgt := 35) hx hb dX5_lastOf_1 (by decide) (by decide) (by decide) (by decide) ?_
    refine lv_sipush (v := iz 702) hx hb dX5_lastOf_35 (by decide) ?_
    exact xp_iret (z := 702) hx hb hr rfl hlocks rfl hS.2.2 dX5_lastOf_38 (by omega)
  refine lv_tableOut (tgt := 39) hx hb dX5_lastOf_1 (by rw [iz_toInt (by omega) (by omega)]; omega) (by decide) ?_
  refine lv_iconst (v := iz 0) hx hb dX5_lastOf_39 (by decide) ?_
  exact xp_iret (z := 0) hx hb hr rfl hlocks rfl hS.2.2 dX5_lastOf_40 (by omega)
set_option maxHeartbeats 4000000 in
set_option maxRecDepth 100000 in
theorem y_style (l : Launch) (hlf : l.stackTraces = false) (dC : Nat → ClassId) (dI : Nat → Nat → Nat) (cI cB cE : ClassId) (o r n : Nat → Nat) (z : Nat → Int) (F : Nat → Int → Int) (G : Nat → Option Nat) (N : Nat) (Eo Er En : Nat → Nat → Nat) (Ez : Nat → Nat → Int) (EF : Nat → Nat → Int → Int) (p0 : Int) (sz : Nat) (hok : xOk n z F) (hxG : xG N (z 12) G Eo) (hPE : eA N En Ez EF) (hp01 : -2147483648 ≤ p0) (hp02 : p0 < 2147483648) : vx_Met l yX5_style [.code yX5_style cX5_style 2 (some .int)] ({ frames := 7, cells := 100, slots := 45000, locals := 103 }) (va_Pc [.ref (o 15), .int (iz p0)] (kx_Pre dC dI (xU cI cB cE o r n z F G (Eo 0 0) ++ eP cI N Eo Er En Ez EF) (xT cI cB cE) sz)) (xQ (fun u : (Int) × (Nat → Nat) × (Nat → Nat) × (Nat → Int) × (Nat → Int → Int) × (Nat → Nat → Nat) × (Nat → Nat → Nat) × (Nat → Nat → Int) × (Nat → Nat → Int → Int) => match u with | (q, r', n', z', F', Er', En', Ez', EF') => some (.int (iz q))) (fun (u : (Int) × (Nat → Nat) × (Nat → Nat) × (Nat → Int) × (Nat → Int → Int) × (Nat → Nat → Nat) × (Nat → Nat → Nat) × (Nat → Nat → Int) × (Nat → Nat → Int → Int)) (dn dm : Nat) => match u with | (q, r', n', z', F', Er', En', Ez', EF') => xR [3] [3] [] [] N z F En Ez EF n' z' F' En' Ez' EF' ∧ (dn + xg n' ≤ xg n + 0 ∧ dm + xp n' ≤ xp n + 0) ∧ ((0 ≤ p0 ∧ p0 ≤ 127) ∧ ((p0 = 0 ∧ q = 0 ∧ z' 3 = 0) ∨ (0 < p0 ∧ q = z 3 + 1 ∧ z' 3 = z 3 + 1)))) (fun u t => kx_At dC dI (va_A (xU cI cB cE o r n z F G (Eo 0 0) ++ eP cI N Eo Er En Ez EF) sz) ((fun u : (Int) × (Nat → Nat) × (Nat → Nat) × (Nat → Int) × (Nat → Int → Int) × (Nat → Nat → Nat) × (Nat → Nat → Nat) × (Nat → Nat → Int) × (Nat → Nat → Int → Int) => match u with | (q, r', n', z', F', Er', En', Ez', EF') => (xU cI cB cE o r' n' z' F' G (Eo 0 0) ++ eP cI N Eo Er' En' Ez' EF')) u) (xT cI cB cE) t) (va_A (xU cI cB cE o r n z F G (Eo 0 0) ++ eP cI N Eo Er En Ez EF) sz)) (yX (fun E => (E = "java/lang/IllegalArgumentException" ∧ (p0 < 0 ∨ 127 < p0)) ∨ (E = "java/lang/UnsupportedOperationException" ∧ (80 ≤ z 3))) 1 6 (fun t => ∃ u : (Nat → Nat) × (Nat → Nat) × (Nat → Int) × (Nat → Int → Int) × (Nat → Nat → Nat) × (Nat → Nat → Nat) × (Nat → Nat → Int) × (Nat → Nat → Int → Int), match u with | (r', n', z', F', Er', En', Ez', EF') => xR [] [] [] [] N z F En Ez EF n' z' F' En' Ez' EF' ∧ kx_At dC dI (va_A (xU cI cB cE o r n z F G (Eo 0 0) ++ eP cI N Eo Er En Ez EF) sz) (xU cI cB cE o r' n' z' F' G (Eo 0 0) ++ eP cI N Eo Er' En' Ez' EF') (xT cI cB cE) t) (va_A (xU cI cB cE o r n z F G (Eo 0 0) ++ eP cI N Eo Er En Ez EF) sz)) 100 45000 (va_A (xU cI cB cE o r n z F G (Eo 0 0) ++ eP cI N Eo Er En Ez EF) sz) := by
  refine vx_ofW (cc := cX5_style) (maxL := 2) (ret := (some .int)) (by decide) rfl ?_
  intro p e s m args below meth c s₁ B hml htab hv
  obtain ⟨rfl, hsz, hP, hK, hD0, hG, hZ⟩ := hv
  have hx := B.exec
  have hb := B.bytes
  have hr := B.returns
  have hts := kx_hts (a := ([.ref (o 15), .int (iz p0)] : List Value).toArray) hG
  have hown : s.vm.findClass RX5 = some m.cls := findClass_of_methodNamed B.named
  have hlocks := B.notSynchronized
  subst hsz
  have hD := hD0.self (sz := s.heap.size)
  generalize hAe : va_A (xU cI cB cE o r n z F G (Eo 0 0) ++ eP cI N Eo Er En Ez EF) s.heap.size = A at hD hZ ⊢
  have hA : ∀ q : Nat, s.heap.size ≤ q → A q := fun q h => by rw [← hAe]; exact Or.inr h
  have hS : va_S A s.heap s.heap [] := va_S.rf
  have hl := lv_entry ([.ref (o 15), .int (iz p0)]) (n := 2) (Nat.le_of_ble_eq_true rfl)
  rw [lg_entry_eq]
  generalize (lg_sl ([.ref (o 15), .int (iz p0)]) ++ List.replicate (2 - (lg_sl ([.ref (o 15), .int (iz p0)])).length) Slot.unset).toArray = ls at hl ⊢
  obtain ⟨hN1, hN2, hN3, hN4⟩ := hxG
  have hef : eFr [] [] En Ez EF En Ez EF := eFr.rf
  have hfr : xFr [3] [3] z F z F := xFr.rf
  have hxgl := xg_le n
  have hxpl := xp_le n
  have hl : lv_has ls 2 [(0, .ref (o 15)), (1, .int (iz p0))] := hl
  refine lv_iload_n hx hb dX5_style_0 rfl (lv_at hl 1 rfl) ?_
  refine ki_if_lt (tgt := 10) hx hb dX5_style_1 (by decide) (by omega) (by omega) (fun c_1 => ?_) (fun c_1 => ?_)
  · skip
    exact ky_thr_IAE hx hb hlf hown hG hZ hS (hl.1.trans hml.symm) dX5_style_10 dX5_style_13 dX5_style_14 dX5_style_17 htab (Nat.le_of_ble_eq_true rfl) (Nat.le_of_ble_eq_true rfl) (show 0 + 1 ≤ 100 from (by omega)) (show 0 + 6 ≤ 45000 from (by omega)) hlocks (Or.inl ⟨rfl, by first | trivial | omega⟩) (fun t hvm h1 h2 => ⟨(r, n, z, F, Er, En, Ez, EF), ⟨hok, xFr.rf, hPE, eFr.rf⟩, hP.kept (fun k q hk => h2 q.1 (hP k q hk).lt), va_K.moved hvm hK, hD⟩) hS.2.2 (by omega) (by omega) (by omega) (by omega)
  · skip
    refine lv_iload_n hx hb dX5_style_4 rfl (lv_at hl 1 rfl) ?_
    refine lv_bipush (v := iz 127) hx hb dX5_style_5 (by decide) ?_
    refine ki_icmp_le (tgt := 18) hx hb dX5_style_7 (by decide) (by omega) (by omega) (by omega) (by omega) (fun c_2 => ?_) (fun c_2 => ?_)
    · skip
      refine lv_iload_n hx hb dX5_style_18 rfl (lv_at hl 1 rfl) ?_
      refine ki_if_ne (tgt := 31) hx hb dX5_style_19 (by decide) (by omega) (by omega) (fun c_3 => ?_) (fun c_3 => ?_)
      · skip
        refine lv_aload_n hx hb dX5_style_31 rfl (lv_at hl 0 rfl) ?_
        refine va_get (D := (dC, dI)) (ci := 5) (v := .ref (o 3)) (C := RX5) (T := TX5) (N := 16) hx hb hts kt_X5 hown hK hP 0 rfl rfl 13 (by decide) (kx_word hG kq_19_xouts_56 rfl) (fun _ h9 => h9) rfl dX5_style_32 ?_
        have hxi_4 : 0 ≤ z 3 ∧ z 3 ≤ ((n 3 : Nat) : Int) ∧ ((n 3 : Nat) : Int) ≤ 80 := hok.1 3 (by decide)
        have hPc := hP.sub (ws' := (iU cI 80 (o 3) (r 3) (n 3) (z 3) (F 3))) [8, 9] rfl
        refine xk_pure (va_runV (As := []) (rest := []) ⟨hx, hb, hml, hown, hts⟩ (x_isFull l dC dI cI cB cE 80 (o 3) (r 3) (n 3) (z 3) (F 3)  s.heap.size (by omega)) (cwV 0 hts (kx_gV kq_21_xcalls_1 kq_15_xspan_35 kq_15_xspan_36 kq_13_xints_6 kq_15_xspan_37 rfl) rfl rfl rfl (by decide +kernel) ⟨Nat.le_of_ble_eq_true rfl, Nat.le_of_ble_eq_true rfl⟩) ⟨pPre_blind, va_recv hK hPc (ci := 1) (q0 := 0) rfl rfl, pPre_give hPc hK hG⟩ rfl rfl hl.1 rfl (lv_room (Nat.le_of_ble_eq_true rfl)) dX5_style_35 ⟨show 0 + 0 ≤ 100 from (by omega), show 0 + 0 ≤ 45000 from (by omega)⟩) hS (fun z_6 locs hq_5 hS => ?_)
        refine W.eq (g2 := F0 m 38 ls [.int (iz z_6)]) rfl ?_
        try dsimp only at hq_5
        rcases hq_5 with ⟨rfl, hq_5⟩ | ⟨rfl, hq_5⟩
        · skip
          refine ki_if_eq (tgt := 49) hx hb dX5_style_38 (by decide) (by omega) (by omega) (fun c_7 => ?_) (fun c_7 => ?_)
          · omega
          · skip
            exact ky_thr_UOE hx hb hlf hown hG hZ hS (hl.1.trans hml.symm) dX5_style_41 dX5_style_44 dX5_style_45 dX5_style_48 htab (Nat.le_of_ble_eq_true rfl) (Nat.le_of_ble_eq_true rfl) (show 0 + 1 ≤ 100 from (by omega)) (show 0 + 6 ≤ 45000 from (by omega)) hlocks (Or.inr (⟨rfl, by first | trivial | omega⟩)) (fun t hvm h1 h2 => ⟨(r, n, z, F, Er, En, Ez, EF), ⟨hok, xFr.rf, hPE, eFr.rf⟩, hP.kept (fun k q hk => h2 q.1 (hP k q hk).lt), va_K.moved hvm hK, hD⟩) hS.2.2 (by omega) (by omega) (by omega) (by omega)
        · skip
          refine ki_if_eq (tgt := 49) hx hb dX5_style_38 (by decide) (by omega) (by omega) (fun c_8 => ?_) (fun c_8 => ?_)
          · skip
            refine lv_aload_n hx hb dX5_style_49 rfl (lv_at hl 0 rfl) ?_
            refine va_get (D := (dC, dI)) (ci := 5) (v := .ref (o 3)) (C := RX5) (T := TX5) (N := 16) hx hb hts kt_X5 hown hK hP 0 rfl rfl 13 (by decide) (kx_word hG kq_19_xouts_56 rfl) (fun _ h9 => h9) rfl dX5_style_50 ?_
            refine lv_iload_n hx hb dX5_style_53 rfl (lv_at hl 1 rfl) ?_
            have hPc := hP.sub (ws' := (iU cI 80 (o 3) (r 3) (n 3) (z 3) (F 3))) [8, 9] rfl
            have hDc := hD.sub (ws' := (iU cI 80 (o 3) (r 3) (n 3) (z 3) (F 3))) [8, 9] (by decide) rfl
            have hFc := va_free (wc := (iU cI 80 (o 3) (r 3) (n 3) (z 3) (F 3))) hD hS hA [8, 9] rfl
            refine xk_call (va_runV (As := [.int (iz p0)]) (rest := []) ⟨hx, hb, hml, hown, hts⟩ (x_add l dC dI cI cB cE 80 (o 3) (r 3) (n 3) (z 3) (F 3) p0 s.heap.size (by omega) (hok.2.2.1 3) (by omega) (by omega)) (cwV 1 hts (kx_gV kq_18_xrows_39 kq_15_xspan_46 kq_15_xspan_47 kq_13_xints_6 kq_15_xspan_48 rfl) rfl rfl rfl (by decide +kernel) ⟨Nat.le_of_ble_eq_true rfl, Nat.le_of_ble_eq_true rfl⟩) ⟨kx_blind, va_recv hK hPc (ci := 1) (q0 := 0) rfl rfl, kx_give (ws := []) (tys := []) hPc hDc hK hG hZ hS hFc⟩ rfl rfl hl.1 rfl (lv_room (Nat.le_of_ble_eq_true rfl)) dX5_style_54 ⟨show 0 + 1 ≤ 100 from (by omega), show 0 + 1600 ≤ 45000 from (by omega)⟩) hS (fun q _ h => hFc q h) hFc (fun u dn_10 dm_11 t H locs ht hvm hq_9 hB hk1 hS => ?_)
            obtain ⟨r_12, n_13, z_14, F_15⟩ := u
            obtain ⟨hP1, hK1, hD1⟩ := hB
            rw [ht] at hP1
            obtain ⟨hP, hD⟩ := xj_pool (wr := [(o 15, .inr (5, [.ref (o 16), .ref (Eo 0 0), .int (iz (z 12)), .int (iz (z 13)), .int (iz (z 14)), .ref (o 0), .ref (o 1), .int (iz (z 15)), .ref (o 13), .ref (o 14), .int (iz (z 16)), .ref (o 2), .ref (o 12), .ref (o 3), .ref (o 10), .ref (o 11)])), (o 16, .inl (cE, 80, .inr (.inr (.inr (.inr G))))), (o 0, .inr (1, [.int (iz 80), .ref (r 0), .int (iz (z 0))])), (r 0, .inl (cI, n 0, .inl (iA (F 0)))), (o 1, .inr (1, [.int (iz 80), .ref (r 1), .int (iz (z 1))])), (r 1, .inl (cI, n 1, .inl (iA (F 1)))), (o 2, .inr (1, [.int (iz 80), .ref (r 2), .int (iz (z 2))])), (r 2, .inl (cI, n 2, .inl (iA (F 2)))), (o 13, .inr (3, [.ref (o 4), .ref (o 5), .ref (o 6)])), (o 4, .inr (1, [.int (iz 1600), .ref (r 4), .int (iz (z 4))])), (r 4, .inl (cI, n 4, .inl (iA (F 4)))), (o 5, .inr (1, [.int (iz 1600), .ref (r 5), .int (iz (z 5))])), (r 5, .inl (cI, n 5, .inl (iA (F 5)))), (o 6, .inr (1, [.int (iz 1600), .ref (r 6), .int (iz (z 6))])), (r 6, .inl (cI, n 6, .inl (iA (F 6)))), (o 14, .inr (3, [.ref (o 7), .ref (o 8), .ref (o 9)])), (o 7, .inr (1, [.int (iz 1600), .ref (r 7), .int (iz (z 7))])), (r 7, .inl (cI, n 7, .inl (iA (F 7)))), (o 8, .inr (1, [.int (iz 1600), .ref (r 8), .int (iz (z 8))])), (r 8, .inl (cI, n 8, .inl (iA (F 8)))), (o 9, .inr (1, [.int (iz 1600), .ref (r 9), .int (iz (z 9))])), (r 9, .inl (cI, n 9, .inl (iA (F 9)))), (o 12, .inr (4, [.int (iz (z 17)), .int (iz (z 18)), .int (iz (z 19)), .int (iz (z 20)), .int (iz (z 21))])), (o 10, .inr (2, [.ref (r 10), .int (iz (z 10)), .int (iz (z 22))])), (r 10, .inl (cB, n 10, .inl (iA (F 10)))), (o 11, .inr (2, [.ref (r 11), .int (iz (z 11)), .int (iz (z 23))])), (r 11, .inl (cB, n 11, .inl (iA (F 11))))]) (w1 := (iU cI 80 (o 3) r_12 n_13 z_14 F_15)) (ws' := (xU cI cB cE o (va_up r 3 r_12) (va_up n 3 n_13) (va_up z 3 z_14) (va_up F 3 F_15) G (Eo 0 0))) hP hD [8, 9] [0, 1, 2, 3, 4, 5, 6, 7, 10, 11, 12, 13, 14, 15, 16, 17, 18, 19, 20, 21, 22, 23, 24, 25, 26, 27, 28] [0, 1, 2, 3, 4, 5, 6, 7, 27, 28, 8, 9, 10, 11, 12, 13, 14, 15, 16, 17, 18, 19, 20, 21, 22, 23, 24, 25, 26] rfl rfl (by decide) (by decide) hk1 hFc hP1 hD1 rfl (by decide)
            refine W.eq (g2 := F0 m 57 ls []) rfl ?_
            try dsimp only at hq_9
            obtain ⟨ha16, hb16, hc16, hd16⟩ := hq_9
            have hax16 := hd16.1
            refine lv_aload_n hx hb dX5_style_57 rfl (lv_at hl 0 rfl) ?_
            refine va_get (D := (dC, dI)) (ci := 5) (v := .ref (o 3)) (C := RX5) (T := TX5) (N := 16) hx hb hts kt_X5 hown hK hP 0 rfl rfl 13 (by decide) (kx_word hG kq_19_xouts_56 rfl) (fun _ h9 => h9) rfl dX5_style_58 ?_
            have hPc := hP.sub (ws' := (iU cI 80 (o 3) r_12 n_13 z_14 F_15)) [8, 9] rfl
            refine xk_pure (va_runV (As := []) (rest := []) ⟨hx, hb, hml, hown, hts⟩ (x_size l dC dI cI cB cE 80 (o 3) r_12 n_13 z_14 F_15  H.size ) (cwV 0 hts (kx_gV kq_18_xrows_40 kq_15_xspan_10 kq_15_xspan_11 kq_13_xints_6 kq_15_xspan_12 rfl) rfl rfl rfl (by decide +kernel) ⟨Nat.le_of_ble_eq_true rfl, Nat.le_of_ble_eq_true rfl⟩) ⟨pPre_blind, va_recv hK hPc (ci := 1) (q0 := 0) rfl rfl, pPre_give hPc hK hG⟩ rfl rfl hl.1 rfl (lv_room (Nat.le_of_ble_eq_true rfl)) dX5_style_61 ⟨show (0 + dn_10) + 0 ≤ 100 from (by omega), show (0 + dm_11) + 0 ≤ 45000 from (by omega)⟩) hS (fun z_18 locs hq_17 hS => ?_)
            refine W.eq (g2 := F0 m 64 ls [.int (iz z_18)]) rfl ?_
            try dsimp only at hq_17
            have hq_17 := hq_17.symm
            subst hq_17
            have hok19 : xOk (va_up n 3 n_13) (va_up z 3 z_14) (va_up F 3 F_15) := (hok.i 3 (by decide) (show 0 ≤ z_14 ∧ z_14 ≤ ((n_13 : Nat) : Int) ∧ ((n_13 : Nat) : Int) ≤ 80 by omega) hb16)
            have hfr19 : xFr [3] [3] z F (va_up z 3 z_14) (va_up F 3 F_15) := ((hfr.uz 3 (by decide) _).uf 3 (by decide) _)
            have hcg19 : (dn_10) + xg (va_up n 3 n_13) ≤ xg n := by unfold xg; simp (decide := true) only [va_ev, ↓reduceIte]; omega
            have hcp19 : (dm_11) + xp (va_up n 3 n_13) ≤ xp n := by unfold xp; simp (decide := true) only [va_ev, ↓reduceIte]; omega
            have hzo3 : (va_up z 3 z_14) 3 = z_14 := rfl
            refine vx_ret ?_
            exact xk_iret (ov := (fun u : (Int) × (Nat → Nat) × (Nat → Nat) × (Nat → Int) × (Nat → Int → Int) × (Nat → Nat → Nat) × (Nat → Nat → Nat) × (Nat → Nat → Int) × (Nat → Nat → Int → Int) => match u with | (q, r', n', z', F', Er', En', Ez', EF') => some (.int (iz q)))) (post := (fun (u : (Int) × (Nat → Nat) × (Nat → Nat) × (Nat → Int) × (Nat → Int → Int) × (Nat → Nat → Nat) × (Nat → Nat → Nat) × (Nat → Nat → Int) × (Nat → Nat → Int → Int)) (dn dm : Nat) => match u with | (q, r', n', z', F', Er', En', Ez', EF') => xR [3] [3] [] [] N z F En Ez EF n' z' F' En' Ez' EF' ∧ (dn + xg n' ≤ xg n + 0 ∧ dm + xp n' ≤ xp n + 0) ∧ ((0 ≤ p0 ∧ p0 ≤ 127) ∧ ((p0 = 0 ∧ q = 0 ∧ z' 3 = 0) ∨ (0 < p0 ∧ q = z 3 + 1 ∧ z' 3 = z 3 + 1))))) (ws := (fun u : (Int) × (Nat → Nat) × (Nat → Nat) × (Nat → Int) × (Nat → Int → Int) × (Nat → Nat → Nat) × (Nat → Nat → Nat) × (Nat → Nat → Int) × (Nat → Nat → Int → Int) => match u with | (q, r', n', z', F', Er', En', Ez', EF') => (xU cI cB cE o r' n' z' F' G (Eo 0 0) ++ eP cI N Eo Er' En' Ez' EF'))) (tys := xT cI cB cE) (z := z_14) (z_14, (va_up r 3 r_12), (va_up n 3 n_13), (va_up z 3 z_14), (va_up F 3 F_15), Er, En, Ez, EF) hx hb hr rfl hlocks rfl hP hD hK hS dX5_style_64 (fun dn dm hdn hdm => ⟨⟨hok19, hfr19, hPE, hef⟩, ⟨by omega, by omega⟩, ⟨by omega, by omega⟩⟩) (by omega) (by omega)
          · omega
      · skip
        refine lv_aload_n hx hb dX5_style_22 rfl (lv_at hl 0 rfl) ?_
        refine va_get (D := (dC, dI)) (ci := 5) (v := .ref (o 3)) (C := RX5) (T := TX5) (N := 16) hx hb hts kt_X5 hown hK hP 0 rfl rfl 13 (by decide) (kx_word hG kq_19_xouts_56 rfl) (fun _ h9 => h9) rfl dX5_style_23 ?_
        have hxi_20 : 0 ≤ z 3 ∧ z 3 ≤ ((n 3 : Nat) : Int) ∧ ((n 3 : Nat) : Int) ≤ 80 := hok.1 3 (by decide)
        have hPc := hP.sub (ws' := (iU cI 80 (o 3) (r 3) (n 3) (z 3) (F 3))) [8, 9] rfl
        have hDc := hD.sub (ws' := (iU cI 80 (o 3) (r 3) (n 3) (z 3) (F 3))) [8, 9] (by decide) rfl
        have hFc := va_free (wc := (iU cI 80 (o 3) (r 3) (n 3) (z 3) (F 3))) hD hS hA [8, 9] rfl
        refine xk_call (va_runV (As := []) (rest := []) ⟨hx, hb, hml, hown, hts⟩ (x_clear l dC dI cI cB cE 80 (o 3) (r 3) (n 3) (z 3) (F 3)  s.heap.size ) (cwV 0 hts (kx_gV kq_18_xrows_38 kq_15_xspan_42 kq_15_xspan_43 kq_13_xints_6 kq_15_xspan_44 rfl) rfl rfl rfl (by decide +kernel) ⟨Nat.le_of_ble_eq_true rfl, Nat.le_of_ble_eq_true rfl⟩) ⟨kx_blind, va_recv hK hPc (ci := 1) (q0 := 0) rfl rfl, kx_give (ws := []) (tys := []) hPc hDc hK hG hZ hS hFc⟩ rfl rfl hl.1 rfl (lv_room (Nat.le_of_ble_eq_true rfl)) dX5_style_26 ⟨show 0 + 0 ≤ 100 from (by omega), show 0 + 0 ≤ 45000 from (by omega)⟩) hS (fun q _ h => hFc q h) hFc (fun u dn_22 dm_23 t H locs ht hvm hq_21 hB hk1 hS => ?_)
        obtain ⟨z_24, rfl⟩ : ∃ z, z = u := ⟨_, rfl⟩
        obtain ⟨hP1, hK1, hD1⟩ := hB
        rw [ht] at hP1
        obtain ⟨hP, hD⟩ := xj_pool (wr := [(o 15, .inr (5, [.ref (o 16), .ref (Eo 0 0), .int (iz (z 12)), .int (iz (z 13)), .int (iz (z 14)), .ref (o 0), .ref (o 1), .int (iz (z 15)), .ref (o 13), .ref (o 14), .int (iz (z 16)), .ref (o 2), .ref (o 12), .ref (o 3), .ref (o 10), .ref (o 11)])), (o 16, .inl (cE, 80, .inr (.inr (.inr (.inr G))))), (o 0, .inr (1, [.int (iz 80), .ref (r 0), .int (iz (z 0))])), (r 0, .inl (cI, n 0, .inl (iA (F 0)))), (o 1, .inr (1, [.int (iz 80), .ref (r 1), .int (iz (z 1))])), (r 1, .inl (cI, n 1, .inl (iA (F 1)))), (o 2, .inr (1, [.int (iz 80), .ref (r 2), .int (iz (z 2))])), (r 2, .inl (cI, n 2, .inl (iA (F 2)))), (o 13, .inr (3, [.ref (o 4), .ref (o 5), .ref (o 6)])), (o 4, .inr (1, [.int (iz 1600), .ref (r 4), .int (iz (z 4))])), (r 4, .inl (cI, n 4, .inl (iA (F 4)))), (o 5, .inr (1, [.int (iz 1600), .ref (r 5), .int (iz (z 5))])), (r 5, .inl (cI, n 5, .inl (iA (F 5)))), (o 6, .inr (1, [.int (iz 1600), .ref (r 6), .int (iz (z 6))])), (r 6, .inl (cI, n 6, .inl (iA (F 6)))), (o 14, .inr (3, [.ref (o 7), .ref (o 8), .ref (o 9)])), (o 7, .inr (1, [.int (iz 1600), .ref (r 7), .int (iz (z 7))])), (r 7, .inl (cI, n 7, .inl (iA (F 7)))), (o 8, .inr (1, [.int (iz 1600), .ref (r 8), .int (iz (z 8))])), (r 8, .inl (cI, n 8, .inl (iA (F 8)))), (o 9, .inr (1, [.int (iz 1600), .ref (r 9), .int (iz (z 9))])), (r 9, .inl (cI, n 9, .inl (iA (F 9)))), (o 12, .inr (4, [.int (iz (z 17)), .int (iz (z 18)), .int (iz (z 19)), .int (iz (z 20)), .int (iz (z 21))])), (o 10, .inr (2, [.ref (r 10), .int (iz (z 10)), .int (iz (z 22))])), (r 10, .inl (cB, n 10, .inl (iA (F 10)))), (o 11, .inr (2, [.ref (r 11), .int (iz (z 11)), .int (iz (z 23))])), (r 11, .inl (cB, n 11, .inl (iA (F 11))))]) (w1 := (iU cI 80 (o 3) (r 3) (n 3) z_24 (F 3))) (ws' := (xU cI cB cE o r n (va_up z 3 z_24) F G (Eo 0 0))) hP hD [8, 9] [0, 1, 2, 3, 4, 5, 6, 7, 10, 11, 12, 13, 14, 15, 16, 17, 18, 19, 20, 21, 22, 23, 24, 25, 26, 27, 28] [0, 1, 2, 3, 4, 5, 6, 7, 27, 28, 8, 9, 10, 11, 12, 13, 14, 15, 16, 17, 18, 19, 20, 21, 22, 23, 24, 25, 26] rfl rfl (by decide) (by decide) hk1 hFc hP1 hD1 rfl (by decide)
        refine W.eq (g2 := F0 m 29 ls []) rfl ?_
        try dsimp only at hq_21
        obtain ⟨hd25, hm25, hz25⟩ := hq_21
        subst hd25
        subst hm25
        refine lv_iconst (v := iz 0) hx hb dX5_style_29 (by decide) ?_
        have hok26 : xOk (va_up n 3 (n 3)) (va_up z 3 z_24) (va_up F 3 (F 3)) := (hok.i 3 (by decide) (show 0 ≤ z_24 ∧ z_24 ≤ ((n 3 : Nat) : Int) ∧ ((n 3 : Nat) : Int) ≤ 80 by omega) (hok.2.2.1 3))
        have hfr26 : xFr [3] [3] z F (va_up z 3 z_24) (va_up F 3 (F 3)) := ((hfr.uz 3 (by decide) _).uf 3 (by decide) _)
        have hcg26 : (0) + xg (va_up n 3 (n 3)) ≤ xg n := by unfold xg; simp (decide := true) only [va_ev, ↓reduceIte]; omega
        have hcp26 : (0) + xp (va_up n 3 (n 3)) ≤ xp n := by unfold xp; simp (decide := true) only [va_ev, ↓reduceIte]; omega
        have hzo3 : (va_up z 3 z_24) 3 = z_24 := rfl
        refine vx_ret ?_
        exact xk_iret (ov := (fun u : (Int) × (Nat → Nat) × (Nat → Nat) × (Nat → Int) × (Nat → Int → Int) × (Nat → Nat → Nat) × (Nat → Nat → Nat) × (Nat → Nat → Int) × (Nat → Nat → Int → Int) => match u with | (q, r', n', z', F', Er', En', Ez', EF') => some (.int (iz q)))) (post := (fun (u : (Int) × (Nat → Nat) × (Nat → Nat) × (Nat → Int) × (Nat → Int → Int) × (Nat → Nat → Nat) × (Nat → Nat → Nat) × (Nat → Nat → Int) × (Nat → Nat → Int → Int)) (dn dm : Nat) => match u with | (q, r', n', z', F', Er', En', Ez', EF') => xR [3] [3] [] [] N z F En Ez EF n' z' F' En' Ez' EF' ∧ (dn + xg n' ≤ xg n + 0 ∧ dm + xp n' ≤ xp n + 0) ∧ ((0 ≤ p0 ∧ p0 ≤ 127) ∧ ((p0 = 0 ∧ q = 0 ∧ z' 3 = 0) ∨ (0 < p0 ∧ q = z 3 + 1 ∧ z' 3 = z 3 + 1))))) (ws := (fun u : (Int) × (Nat → Nat) × (Nat → Nat) × (Nat → Int) × (Nat → Int → Int) × (Nat → Nat → Nat) × (Nat → Nat → Nat) × (Nat → Nat → Int) × (Nat → Nat → Int → Int) => match u with | (q, r', n', z', F', Er', En', Ez', EF') => (xU cI cB cE o r' n' z' F' G (Eo 0 0) ++ eP cI N Eo Er' En' Ez' EF'))) (tys := xT cI cB cE) (z := 0) (0, r, (va_up n 3 (n 3)), (va_up z 3 z_24), (va_up F 3 (F 3)), Er, En, Ez, EF) hx hb hr rfl hlocks rfl hP hD hK hS dX5_style_30 (fun dn dm hdn hdm => ⟨⟨hok26, hfr26, hPE, hef⟩, ⟨by omega, by omega⟩, ⟨by omega, by omega⟩⟩) (by omega) (by omega)
    · skip
      exact ky_thr_IAE hx hb hlf hown hG hZ hS (hl.1.trans hml.symm) dX5_style_10 dX5_style_13 dX5_style_14 dX5_style_17 htab (Nat.le_of_ble_eq_true rfl) (Nat.le_of_ble_eq_true rfl) (show 0 + 1 ≤ 100 from (by omega)) (show 0 + 6 ≤ 45000 from (by omega)) hlocks (Or.inl ⟨rfl, by first | trivial | omega⟩) (fun t hvm h1 h2 => ⟨(r, n, z, F, Er, En, Ez, EF), ⟨hok, xFr.rf, hPE, eFr.rf⟩, hP.kept (fun k q hk => h2 q.1 (hP k q hk).lt), va_K.moved hvm hK, hD⟩) hS.2.2 (by omega) (by omega) (by omega) (by omega)
set_option maxHeartbeats 4000000 in
set_option maxRecDepth 100000 in
theorem y_rule (l : Launch) (hlf : l.stackTraces = false) (dC : Nat → ClassId) (dI : Nat → Nat → Nat) (cI cB cE : ClassId) (o r n : Nat → Nat) (z : Nat → Int) (F : Nat → Int → Int) (G : Nat → Option Nat) (N : Nat) (Eo Er En : Nat → Nat → Nat) (Ez : Nat → Nat → Int) (EF : Nat → Nat → Int → Int) (p0 : Int) (p1 : Int) (sz : Nat) (hok : xOk n z F) (hxG : xG N (z 12) G Eo) (hPE : eA N En Ez EF) (hp01 : -2147483648 ≤ p0) (hp02 : p0 < 2147483648) (hp1 : p1 = 0 ∨ p1 = 1) : vx_Met l yX5_rule [.code yX5_rule cX5_rule 4 (some .int)] ({ frames := 7, cells := 1000, slots := 60000, locals := 173 }) (va_Pc [.ref (o 15), .int (iz p0), .int (iz p1)] (kx_Pre dC dI (xU cI cB cE o r n z F G (Eo 0 0) ++ eP cI N Eo Er En Ez EF) (xT cI cB cE) sz)) (xQ (fun u : (Int) × (Nat → Nat) × (Nat → Nat) × (Nat → Int) × (Nat → Int → Int) × (Nat → Nat → Nat) × (Nat → Nat → Nat) × (Nat → Nat → Int) × (Nat → Nat → Int → Int) => match u with | (q, r', n', z', F', Er', En', Ez', EF') => some (.int (iz q))) (fun (u : (Int) × (Nat → Nat) × (Nat → Nat) × (Nat → Int) × (Nat → Int → Int) × (Nat → Nat → Nat) × (Nat → Nat → Nat) × (Nat → Nat → Int) × (Nat → Nat → Int → Int)) (dn dm : Nat) => match u with | (q, r', n', z', F', Er', En', Ez', EF') => xR [13, 14, 15, 16] [] [2] [2] N z F En Ez EF n' z' F' En' Ez' EF' ∧ (dn + xg n' ≤ xg n + 720 ∧ dm + xp n' ≤ xp n + 9600) ∧ ((p0 = 0 ∧ q = z 13 ∧ z' 13 = p1 ∧ z' 14 = z 14) ∨ (p0 = 1 ∧ q = z 14 ∧ z' 14 = p1 ∧ z' 13 = z 13))) (fun u t => kx_At dC dI (va_A (xU cI cB cE o r n z F G (Eo 0 0) ++ eP cI N Eo Er En Ez EF) sz) ((fun u : (Int) × (Nat → Nat) × (Nat → Nat) × (Nat → Int) × (Nat → Int → Int) × (Nat → Nat → Nat) × (Nat → Nat → Nat) × (Nat → Nat → Int) × (Nat → Nat → Int → Int) => match u with | (q, r', n', z', F', Er', En', Ez', EF') => (xU cI cB cE o r' n' z' F' G (Eo 0 0) ++ eP cI N Eo Er' En' Ez' EF')) u) (xT cI cB cE) t) (va_A (xU cI cB cE o r n z F G (Eo 0 0) ++ eP cI N Eo Er En Ez EF) sz)) (yX (fun E => (E = "java/lang/IllegalArgumentException" ∧ (¬ p0 = 0 ∧ ¬ p0 = 1))) 1 6 (fun t => ∃ u : (Nat → Nat) × (Nat → Nat) × (Nat → Int) × (Nat → Int → Int) × (Nat → Nat → Nat) × (Nat → Nat → Nat) × (Nat → Nat → Int) × (Nat → Nat → Int → Int), match u with | (r', n', z', F', Er', En', Ez', EF') => xR [] [] [] [] N z F En Ez EF n' z' F' En' Ez' EF' ∧ kx_At dC dI (va_A (xU cI cB cE o r n z F G (Eo 0 0) ++ eP cI N Eo Er En Ez EF) sz) (xU cI cB cE o r' n' z' F' G (Eo 0 0) ++ eP cI N Eo Er' En' Ez' EF') (xT cI cB cE) t) (va_A (xU cI cB cE o r n z F G (Eo 0 0) ++ eP cI N Eo Er En Ez EF) sz)) 1000 60000 (va_A (xU cI cB cE o r n z F G (Eo 0 0) ++ eP cI N Eo Er En Ez EF) sz) := by
  refine vx_ofW (cc := cX5_rule) (maxL := 4) (ret := (some .int)) (by decide) rfl ?_
  intro p e s m args below meth c s₁ B hml htab hv
  obtain ⟨rfl, hsz, hP, hK, hD0, hG, hZ⟩ := hv
  have hx := B.exec
  have hb := B.bytes
  have hr := B.returns
  have hts := kx_hts (a := ([.ref (o 15), .int (iz p0), .int (iz p1)] : List Value).toArray) hG
  have hown : s.vm.findClass RX5 = some m.cls := findClass_of_methodNamed B.named
  have hlocks := B.notSynchronized
  subst hsz
  have hD := hD0.self (sz := s.heap.size)
  generalize hAe : va_A (xU cI cB cE o r n z F G (Eo 0 0) ++ eP cI N Eo Er En Ez EF) s.heap.size = A at hD hZ ⊢
  have hA : ∀ q : Nat, s.heap.size ≤ q → A q := fun q h => by rw [← hAe]; exact Or.inr h
  have hS : va_S A s.heap s.heap [] := va_S.rf
  have hl := lv_entry ([.ref (o 15), .int (iz p0), .int (iz p1)]) (n := 4) (Nat.le_of_ble_eq_true rfl)
  rw [lg_entry_eq]
  generalize (lg_sl ([.ref (o 15), .int (iz p0), .int (iz p1)]) ++ List.replicate (4 - (lg_sl ([.ref (o 15), .int (iz p0), .int (iz p1)])).length) Slot.unset).toArray = ls at hl ⊢
  obtain ⟨hN1, hN2, hN3, hN4⟩ := hxG
  have hef : eFr [2] [2] En Ez EF En Ez EF := eFr.rf
  have hfr : xFr [13, 14, 15, 16] [] z F z F := xFr.rf
  have hxgl := xg_le n
  have hxpl := xp_le n
  have hl : lv_has ls 4 [(0, .ref (o 15)), (1, .int (iz p0)), (2, .int (iz p1))] := hl
  refine lv_iload_n hx hb dX5_rule_0 rfl (lv_at hl 1 rfl) ?_
  refine ki_if_lt (tgt := 9) hx hb dX5_rule_1 (by decide) (by omega) (by omega) (fun c_1 => ?_) (fun c_1 => ?_)
  · skip
    exact ky_thr_IAE hx hb hlf hown hG hZ hS (hl.1.trans hml.symm) dX5_rule_9 dX5_rule_12 dX5_rule_13 dX5_rule_16 htab (Nat.le_of_ble_eq_true rfl) (Nat.le_of_ble_eq_true rfl) (show 0 + 1 ≤ 1000 from (by omega)) (show 0 + 6 ≤ 60000 from (by omega)) hlocks (⟨rfl, by first | trivial | omega⟩) (fun t hvm h1 h2 => ⟨(r, n, z, F, Er, En, Ez, EF), ⟨hok, xFr.rf, hPE, eFr.rf⟩, hP.kept (fun k q hk => h2 q.1 (hP k q hk).lt), va_K.moved hvm hK, hD⟩) hS.2.2 (by omega) (by omega) (by omega) (by omega)
  · skip
    refine lv_iload_n hx hb dX5_rule_4 rfl (lv_at hl 1 rfl) ?_
    refine lv_iconst (v := iz 1) hx hb dX5_rule_5 (by decide) ?_
    refine ki_icmp_le (tgt := 17) hx hb dX5_rule_6 (by decide) (by omega) (by omega) (by omega) (by omega) (fun c_2 => ?_) (fun c_2 => ?_)
    · skip
      refine lv_iload_n hx hb dX5_rule_17 rfl (lv_at hl 1 rfl) ?_
      refine ki_if_ne (tgt := 28) hx hb dX5_rule_18 (by decide) (by omega) (by omega) (fun c_3 => ?_) (fun c_3 => ?_)
      · skip
        refine lv_aload_n hx hb dX5_rule_28 rfl (lv_at hl 0 rfl) ?_
        have hxz_4 : -2147483648 ≤ z 14 ∧ z 14 < 2147483648 := hok.2.2.2.1 14
        have hxb_5 : z 14 = 0 ∨ z 14 = 1 := hok.2.2.2.2 14 (by decide)
        refine va_get (D := (dC, dI)) (ci := 5) (v := .int (iz (z 14))) (C := RX5) (T := TX5) (N := 16) hx hb hts kt_X5 hown hK hP 0 rfl rfl 4 (by decide) (kx_word hG kq_18_xrows_32 rfl) (fun _ h9 => h9) rfl dX5_rule_29 ?_
        refine lv_istore_n (lv' := [(3, .int (iz (z 14))), (0, .ref (o 15)), (1, .int (iz p0)), (2, .int (iz p1))]) hx hb dX5_rule_32 rfl hl (by decide) rfl (fun ls hl => ?_)
        refine lv_iload_n hx hb dX5_rule_33 rfl (lv_at hl 2 rfl) ?_
        refine ki_if_ne (tgt := 45) hx hb dX5_rule_34 (by decide) (by omega) (by omega) (fun c_6 => ?_) (fun c_6 => ?_)
        · skip
          refine lv_aload_n hx hb dX5_rule_45 rfl (lv_at hl 1 rfl) ?_
          refine lv_iload_n hx hb dX5_rule_46 rfl (lv_at hl 3 rfl) ?_
          refine va_put (D := (dC, dI)) (ci := 5) (v := .int (iz p1)) (ty := .boolean) (C := RX5) (T := TX5) (N := 16) hx hb hts kt_X5 tyX5 tyX5_ok nmX5 hown hK hP hD hS 0 rfl rfl 4 (by decide) (kx_word hG kq_18_xrows_32 rfl) (fun _ h9 => h9) rfl (by decide +kernel) (mz_bool (by omega)).1 (mz_bool (by omega)).2 (Nat.le_of_ble_eq_true rfl) dX5_rule_47 (fun H locs hP hD hS => ?_)
          have hP : va_P (dC, dI) kxCl ((xU cI cB cE o r n (va_up z 14 p1) F G (Eo 0 0)) ++ (eP cI N Eo Er En Ez EF)) H := hP
          have hD : va_D A ((xU cI cB cE o r n (va_up z 14 p1) F G (Eo 0 0)) ++ (eP cI N Eo Er En Ez EF)) := hD
          refine lv_iload_n hx hb dX5_rule_50 rfl (lv_at hl 0 rfl) ?_
          refine lv_iload_n hx hb dX5_rule_51 rfl (lv_at hl 3 rfl) ?_
          refine ki_icmp_eq (tgt := 63) hx hb dX5_rule_52 (by decide) (by omega) (by omega) (by omega) (by omega) (fun c_7 => ?_) (fun c_7 => ?_)
          · skip
            refine lv_iload_n hx hb dX5_rule_63 rfl (lv_at hl 0 rfl) ?_
            refine ki_if_eq (tgt := 71) hx hb dX5_rule_64 (by decide) (by omega) (by omega) (fun c_8 => ?_) (fun c_8 => ?_)
            · skip
              refine lv_iconst (v := iz 0) hx hb dX5_rule_71 (by decide) ?_
              have hok9 : xOk n (va_up z 14 p1) F := (hok.s 14 (by decide) (show -2147483648 ≤ p1 ∧ p1 < 2147483648 by omega) (by omega))
              have hfr9 : xFr [13, 14, 15, 16] [] z F (va_up z 14 p1) F := (hfr.uz 14 (by decide) _)
              have hzo13 : (va_up z 14 p1) 13 = z 13 := rfl
              have hzo14 : (va_up z 14 p1) 14 = p1 := rfl
              refine vx_ret ?_
              exact xk_iret (ov := (fun u : (Int) × (Nat → Nat) × (Nat → Nat) × (Nat → Int) × (Nat → Int → Int) × (Nat → Nat → Nat) × (Nat → Nat → Nat) × (Nat → Nat → Int) × (Nat → Nat → Int → Int) => match u with | (q, r', n', z', F', Er', En', Ez', EF') => some (.int (iz q)))) (post := (fun (u : (Int) × (Nat → Nat) × (Nat → Nat) × (Nat → Int) × (Nat → Int → Int) × (Nat → Nat → Nat) × (Nat → Nat → Nat) × (Nat → Nat → Int) × (Nat → Nat → Int → Int)) (dn dm : Nat) => match u with | (q, r', n', z', F', Er', En', Ez', EF') => xR [13, 14, 15, 16] [] [2] [2] N z F En Ez EF n' z' F' En' Ez' EF' ∧ (dn + xg n' ≤ xg n + 720 ∧ dm + xp n' ≤ xp n + 9600) ∧ ((p0 = 0 ∧ q = z 13 ∧ z' 13 = p1 ∧ z' 14 = z 14) ∨ (p0 = 1 ∧ q = z 14 ∧ z' 14 = p1 ∧ z' 13 = z 13)))) (ws := (fun u : (Int) × (Nat → Nat) × (Nat → Nat) × (Nat → Int) × (Nat → Int → Int) × (Nat → Nat → Nat) × (Nat → Nat → Nat) × (Nat → Nat → Int) × (Nat → Nat → Int → Int) => match u with | (q, r', n', z', F', Er', En', Ez', EF') => (xU cI cB cE o r' n' z' F' G (Eo 0 0) ++ eP cI N Eo Er' En' Ez' EF'))) (tys := xT cI cB cE) (z := 0) (0, r, n, (va_up z 14 p1), F, Er, En, Ez, EF) hx hb hr rfl hlocks rfl hP hD hK hS dX5_rule_72 (fun dn dm hdn hdm => ⟨⟨hok9, hfr9, hPE, hef⟩, ⟨by omega, by omega⟩, by omega⟩) (by omega) (by omega)
            · skip
              refine lv_iconst (v := iz 1) hx hb dX5_rule_67 (by decide) ?_
              refine lv_goto (tgt := 72) hx hb dX5_rule_68 (by decide) ?_
              have hok10 : xOk n (va_up z 14 p1) F := (hok.s 14 (by decide) (show -2147483648 ≤ p1 ∧ p1 < 2147483648 by omega) (by omega))
              have hfr10 : xFr [13, 14, 15, 16] [] z F (va_up z 14 p1) F := (hfr.uz 14 (by decide) _)
              have hzo13 : (va_up z 14 p1) 13 = z 13 := rfl
              have hzo14 : (va_up z 14 p1) 14 = p1 := rfl
              refine vx_ret ?_
              exact xk_iret (ov := (fun u : (Int) × (Nat → Nat) × (Nat → Nat) × (Nat → Int) × (Nat → Int → Int) × (Nat → Nat → Nat) × (Nat → Nat → Nat) × (Nat → Nat → Int) × (Nat → Nat → Int → Int) => match u with | (q, r', n', z', F', Er', En', Ez', EF') => some (.int (iz q)))) (post := (fun (u : (Int) × (Nat → Nat) × (Nat → Nat) × (Nat → Int) × (Nat → Int → Int) × (Nat → Nat → Nat) × (Nat → Nat → Nat) × (Nat → Nat → Int) × (Nat → Nat → Int → Int)) (dn dm : Nat) => match u with | (q, r', n', z', F', Er', En', Ez', EF') => xR [13, 14, 15, 16] [] [2] [2] N z F En Ez EF n' z' F' En' Ez' EF' ∧ (dn + xg n' ≤ xg n + 720 ∧ dm + xp n' ≤ xp n + 9600) ∧ ((p0 = 0 ∧ q = z 13 ∧ z' 13 = p1 ∧ z' 14 = z 14) ∨ (p0 = 1 ∧ q = z 14 ∧ z' 14 = p1 ∧ z' 13 = z 13)))) (ws := (fun u : (Int) × (Nat → Nat) × (Nat → Nat) × (Nat → Int) × (Nat → Int → Int) × (Nat → Nat → Nat) × (Nat → Nat → Nat) × (Nat → Nat → Int) × (Nat → Nat → Int → Int) => match u with | (q, r', n', z', F', Er', En', Ez', EF') => (xU cI cB cE o r' n' z' F' G (Eo 0 0) ++ eP cI N Eo Er' En' Ez' EF'))) (tys := xT cI cB cE) (z := 1) (1, r, n, (va_up z 14 p1), F, Er, En, Ez, EF) hx hb hr rfl hlocks rfl hP hD hK hS dX5_rule_72 (fun dn dm hdn hdm => ⟨⟨hok10, hfr10, hPE, hef⟩, ⟨by omega, by omega⟩, by omega⟩) (by omega) (by omega)
          · skip
            refine lv_aload_n hx hb dX5_rule_55 rfl (lv_at hl 1 rfl) ?_
            have hok11 : xOk n (va_up z 14 p1) F := (hok.s 14 (by decide) (show -2147483648 ≤ p1 ∧ p1 < 2147483648 by omega) (by omega))
            have hfr11 : xFr [13, 14, 15, 16] [] z F (va_up z 14 p1) F := (hfr.uz 14 (by decide) _)
            have hxz_12 : -2147483648 ≤ z 12 ∧ z 12 < 2147483648 := hok.2.2.2.1 12
            have hxG9 : xG N (z 12) G Eo := ⟨by omega, by omega, by omega, fun e9 h9 => hN4 e9 (by omega)⟩
            have hP : va_P (dC, dI) kxCl (xU cI cB cE o r n (va_up z 14 p1) F G (Eo 0 0) ++ eP cI N Eo Er En Ez EF) H := hP
            have hD : va_D A (xU cI cB cE o r n (va_up z 14 p1) F G (Eo 0 0) ++ eP cI N Eo Er En Ez EF) := hD
            have hFc := xw_free hD hS hA
            refine xk_call (va_runV (As := []) (rest := []) ⟨hx, hb, hml, hown, hts⟩ (y_makeKeys l dC dI cI cB cE o r n (va_up z 14 p1) F G N Eo Er En Ez EF  H.size hok11 hxG9 hPE ) (cwV 0 hts (kx_gV kq_21_xcalls_2 kq_21_xcalls_3 kq_21_xcalls_4 kq_18_xrows_4 kq_21_xcalls_5 rfl) rfl rfl rfl (by decide +kernel) ⟨Nat.le_of_ble_eq_true rfl, Nat.le_of_ble_eq_true rfl⟩) ⟨kx_blind, va_recv hK hP (ci := 5) (q0 := 0) rfl rfl, kx_give (ws := []) (tys := []) hP hD hK hG hZ hS hFc⟩ rfl rfl hl.1 rfl (lv_room (Nat.le_of_ble_eq_true rfl)) dX5_rule_56 ⟨show 0 + 900 ≤ 1000 from (by omega), show 0 + 55000 ≤ 60000 from (by omega)⟩) hS (fun q _ h => hFc q h) hFc (fun u dn_15 dm_16 t H locs ht hvm hq_13 hB hk1 hS => ?_)
            obtain ⟨r_17, n_18, z_19, F_20, Er_21, En_22, Ez_23, EF_24⟩ := u
            obtain ⟨hP, hK1, hD1⟩ := hB
            rw [ht] at hP
            have hD := hD1.weaken (fun _ q _ h => hFc _ h)
            obtain ⟨hR25, hC25, hq_13⟩ := hq_13
            have hok25 := hR25.1
            have hfr25 := hfr11.tr (hR25.2.1.mono (S' := [13, 14, 15, 16]) (T' := []) (by decide) (by decide))
            have hPE25 := hR25.2.2.1
            have hef25 := hef.tr (hR25.2.2.2.mono (S' := [2]) (T' := [2]) (by decide) (by decide))
            have hz25 : z_19 12 = (z 12) := hR25.2.1.1 12 (by decide)
            have hkr25_13 : z_19 13 = z 13 := hR25.2.1.1 13 (by decide)
            have hkr25_14 : z_19 14 = p1 := hR25.2.1.1 14 (by decide)
            refine W.eq (g2 := F0 m 59 ls []) rfl ?_
            try dsimp only at hq_13
            try simp (decide := true) only [va_ev, ↓reduceIte] at hq_13
            refine lv_aload_n hx hb dX5_rule_59 rfl (lv_at hl 1 rfl) ?_
            have hxz_26 : -2147483648 ≤ z_19 12 ∧ z_19 12 < 2147483648 := hok25.2.2.2.1 12
            have hxG9 : xG N (z_19 12) G Eo := ⟨by omega, by omega, by omega, fun e9 h9 => hN4 e9 (by omega)⟩
            have hP : va_P (dC, dI) kxCl (xU cI cB cE o r_17 n_18 z_19 F_20 G (Eo 0 0) ++ eP cI N Eo Er_21 En_22 Ez_23 EF_24) H := hP
            have hD : va_D A (xU cI cB cE o r_17 n_18 z_19 F_20 G (Eo 0 0) ++ eP cI N Eo Er_21 En_22 Ez_23 EF_24) := hD
            have hFc := xw_free hD hS hA
            refine xk_call (va_runV (As := []) (rest := []) ⟨hx, hb, hml, hown, hts⟩ (y_forgetRows l dC dI cI cB cE o r_17 n_18 z_19 F_20 G N Eo Er_21 En_22 Ez_23 EF_24  H.size hok25 hxG9 hPE25 ) (cwV 0 hts (kx_gV kq_21_xcalls_6 kq_21_xcalls_7 kq_21_xcalls_8 kq_18_xrows_4 kq_21_xcalls_9 rfl) rfl rfl rfl (by decide +kernel) ⟨Nat.le_of_ble_eq_true rfl, Nat.le_of_ble_eq_true rfl⟩) ⟨kx_blind, va_recv hK hP (ci := 5) (q0 := 0) rfl rfl, kx_give (ws := []) (tys := []) hP hD hK hG hZ hS hFc⟩ rfl rfl hl.1 rfl (lv_room (Nat.le_of_ble_eq_true rfl)) dX5_rule_60 ⟨show (0 + dn_15) + 0 ≤ 1000 from (by omega), show (0 + dm_16) + 0 ≤ 60000 from (by omega)⟩) hS (fun q _ h => hFc q h) hFc (fun u dn_29 dm_30 t H locs ht hvm hq_27 hB hk1 hS => ?_)
            obtain ⟨r_31, n_32, z_33, F_34, Er_35, En_36, Ez_37, EF_38⟩ := u
            obtain ⟨hP, hK1, hD1⟩ := hB
            rw [ht] at hP
            have hD := hD1.weaken (fun _ q _ h => hFc _ h)
            obtain ⟨hR39, hC39, hq_27⟩ := hq_27
            obtain ⟨rfl, rfl, rfl, rfl, rfl, rfl, rfl, hq_27⟩ := hq_27
            subst hq_27
            have hP : va_P (dC, dI) kxCl ((xU cI cB cE o r_17 n_18 (va_up (va_up z_19 15 0) 16 (-1)) F_20 G (Eo 0 0)) ++ (eP cI N Eo Er_21 En_22 Ez_23 EF_24)) H := hP
            have hD : va_D A ((xU cI cB cE o r_17 n_18 (va_up (va_up z_19 15 0) 16 (-1)) F_20 G (Eo 0 0)) ++ (eP cI N Eo Er_21 En_22 Ez_23 EF_24)) := hD
            refine W.eq (g2 := F0 m 63 ls []) rfl ?_
            refine lv_iload_n hx hb dX5_rule_63 rfl (lv_at hl 0 rfl) ?_
            refine ki_if_eq (tgt := 71) hx hb dX5_rule_64 (by decide) (by omega) (by omega) (fun c_40 => ?_) (fun c_40 => ?_)
            · skip
              refine lv_iconst (v := iz 0) hx hb dX5_rule_71 (by decide) ?_
              have hxz_41 : -2147483648 ≤ z_19 15 ∧ z_19 15 < 2147483648 := hok25.2.2.2.1 15
              have hxb_42 : z_19 15 = 0 ∨ z_19 15 = 1 := hok25.2.2.2.2 15 (by decide)
              have hxz_43 : -2147483648 ≤ z_19 16 ∧ z_19 16 < 2147483648 := hok25.2.2.2.1 16
              have hok44 : xOk n_18 (va_up (va_up z_19 15 0) 16 (-1)) F_20 := ((hok25.s 15 (by decide) (show -2147483648 ≤ 0 ∧ 0 < 2147483648 by omega) (by omega)).s 16 (by decide) (show -2147483648 ≤ (-1) ∧ (-1) < 2147483648 by omega) (by omega))
              have hfr44 : xFr [13, 14, 15, 16] [] z F (va_up (va_up z_19 15 0) 16 (-1)) F_20 := ((hfr25.uz 15 (by decide) _).uz 16 (by decide) _)
              have hzo13 : (va_up (va_up z_19 15 0) 16 (-1)) 13 = z_19 13 := rfl
              have hzo14 : (va_up (va_up z_19 15 0) 16 (-1)) 14 = z_19 14 := rfl
              refine vx_ret ?_
              exact xk_iret (ov := (fun u : (Int) × (Nat → Nat) × (Nat → Nat) × (Nat → Int) × (Nat → Int → Int) × (Nat → Nat → Nat) × (Nat → Nat → Nat) × (Nat → Nat → Int) × (Nat → Nat → Int → Int) => match u with | (q, r', n', z', F', Er', En', Ez', EF') => some (.int (iz q)))) (post := (fun (u : (Int) × (Nat → Nat) × (Nat → Nat) × (Nat → Int) × (Nat → Int → Int) × (Nat → Nat → Nat) × (Nat → Nat → Nat) × (Nat → Nat → Int) × (Nat → Nat → Int → Int)) (dn dm : Nat) => match u with | (q, r', n', z', F', Er', En', Ez', EF') => xR [13, 14, 15, 16] [] [2] [2] N z F En Ez EF n' z' F' En' Ez' EF' ∧ (dn + xg n' ≤ xg n + 720 ∧ dm + xp n' ≤ xp n + 9600) ∧ ((p0 = 0 ∧ q = z 13 ∧ z' 13 = p1 ∧ z' 14 = z 14) ∨ (p0 = 1 ∧ q = z 14 ∧ z' 14 = p1 ∧ z' 13 = z 13)))) (ws := (fun u : (Int) × (Nat → Nat) × (Nat → Nat) × (Nat → Int) × (Nat → Int → Int) × (Nat → Nat → Nat) × (Nat → Nat → Nat) × (Nat → Nat → Int) × (Nat → Nat → Int → Int) => match u with | (q, r', n', z', F', Er', En', Ez', EF') => (xU cI cB cE o r' n' z' F' G (Eo 0 0) ++ eP cI N Eo Er' En' Ez' EF'))) (tys := xT cI cB cE) (z := 0) (0, r_17, n_18, (va_up (va_up z_19 15 0) 16 (-1)), F_20, Er_21, En_22, Ez_23, EF_24) hx hb hr rfl hlocks rfl hP hD hK hS dX5_rule_72 (fun dn dm hdn hdm => ⟨⟨hok44, hfr44, hPE25, hef25⟩, ⟨by omega, by omega⟩, by omega⟩) (by omega) (by omega)
            · skip
              refine lv_iconst (v := iz 1) hx hb dX5_rule_67 (by decide) ?_
              refine lv_goto (tgt := 72) hx hb dX5_rule_68 (by decide) ?_
              have hxz_45 : -2147483648 ≤ z_19 15 ∧ z_19 15 < 2147483648 := hok25.2.2.2.1 15
              have hxb_46 : z_19 15 = 0 ∨ z_19 15 = 1 := hok25.2.2.2.2 15 (by decide)
              have hxz_47 : -2147483648 ≤ z_19 16 ∧ z_19 16 < 2147483648 := hok25.2.2.2.1 16
              have hok48 : xOk n_18 (va_up (va_up z_19 15 0) 16 (-1)) F_20 := ((hok25.s 15 (by decide) (show -2147483648 ≤ 0 ∧ 0 < 2147483648 by omega) (by omega)).s 16 (by decide) (show -2147483648 ≤ (-1) ∧ (-1) < 2147483648 by omega) (by omega))
              have hfr48 : xFr [13, 14, 15, 16] [] z F (va_up (va_up z_19 15 0) 16 (-1)) F_20 := ((hfr25.uz 15 (by decide) _).uz 16 (by decide) _)
              have hzo13 : (va_up (va_up z_19 15 0) 16 (-1)) 13 = z_19 13 := rfl
              have hzo14 : (va_up (va_up z_19 15 0) 16 (-1)) 14 = z_19 14 := rfl
              refine vx_ret ?_
              exact xk_iret (ov := (fun u : (Int) × (Nat → Nat) × (Nat → Nat) × (Nat → Int) × (Nat → Int → Int) × (Nat → Nat → Nat) × (Nat → Nat → Nat) × (Nat → Nat → Int) × (Nat → Nat → Int → Int) => match u with | (q, r', n', z', F', Er', En', Ez', EF') => some (.int (iz q)))) (post := (fun (u : (Int) × (Nat → Nat) × (Nat → Nat) × (Nat → Int) × (Nat → Int → Int) × (Nat → Nat → Nat) × (Nat → Nat → Nat) × (Nat → Nat → Int) × (Nat → Nat → Int → Int)) (dn dm : Nat) => match u with | (q, r', n', z', F', Er', En', Ez', EF') => xR [13, 14, 15, 16] [] [2] [2] N z F En Ez EF n' z' F' En' Ez' EF' ∧ (dn + xg n' ≤ xg n + 720 ∧ dm + xp n' ≤ xp n + 9600) ∧ ((p0 = 0 ∧ q = z 13 ∧ z' 13 = p1 ∧ z' 14 = z 14) ∨ (p0 = 1 ∧ q = z 14 ∧ z' 14 = p1 ∧ z' 13 = z 13)))) (ws := (fun u : (Int) × (Nat → Nat) × (Nat → Nat) × (Nat → Int) × (Nat → Int → Int) × (Nat → Nat → Nat) × (Nat → Nat → Nat) × (Nat → Nat → Int) × (Nat → Nat → Int → Int) => match u with | (q, r', n', z', F', Er', En', Ez', EF') => (xU cI cB cE o r' n' z' F' G (Eo 0 0) ++ eP cI N Eo Er' En' Ez' EF'))) (tys := xT cI cB cE) (z := 1) (1, r_17, n_18, (va_up (va_up z_19 15 0) 16 (-1)), F_20, Er_21, En_22, Ez_23, EF_24) hx hb hr rfl hlocks rfl hP hD hK hS dX5_rule_72 (fun dn dm hdn hdm => ⟨⟨hok48, hfr48, hPE25, hef25⟩, ⟨by omega, by omega⟩, by omega⟩) (by omega) (by omega)
        · omega
      · skip
        refine lv_aload_n hx hb dX5_rule_21 rfl (lv_at hl 0 rfl) ?_
        have hxz_49 : -2147483648 ≤ z 13 ∧ z 13 < 2147483648 := hok.2.2.2.1 13
        have hxb_50 : z 13 = 0 ∨ z 13 = 1 := hok.2.2.2.2 13 (by decide)
        refine va_get (D := (dC, dI)) (ci := 5) (v := .int (iz (z 13))) (C := RX5) (T := TX5) (N := 16) hx hb hts kt_X5 hown hK hP 0 rfl rfl 3 (by decide) (kx_word hG kq_18_xrows_31 rfl) (fun _ h9 => h9) rfl dX5_rule_22 ?_
        refine lv_goto (tgt := 32) hx hb dX5_rule_25 (by decide) ?_
        refine lv_istore_n (lv' := [(3, .int (iz (z 13))), (0, .ref (o 15)), (1, .int (iz p0)), (2, .int (iz p1))]) hx hb dX5_rule_32 rfl hl (by decide) rfl (fun ls hl => ?_)
        refine lv_iload_n hx hb dX5_rule_33 rfl (lv_at hl 2 rfl) ?_
        refine ki_if_ne (tgt := 45) hx hb dX5_rule_34 (by decide) (by omega) (by omega) (fun c_51 => ?_) (fun c_51 => ?_)
        · omega
        · skip
          refine lv_aload_n hx hb dX5_rule_37 rfl (lv_at hl 1 rfl) ?_
          refine lv_iload_n hx hb dX5_rule_38 rfl (lv_at hl 3 rfl) ?_
          refine va_put (D := (dC, dI)) (ci := 5) (v := .int (iz p1)) (ty := .boolean) (C := RX5) (T := TX5) (N := 16) hx hb hts kt_X5 tyX5 tyX5_ok nmX5 hown hK hP hD hS 0 rfl rfl 3 (by decide) (kx_word hG kq_18_xrows_31 rfl) (fun _ h9 => h9) rfl (by decide +kernel) (mz_bool (by omega)).1 (mz_bool (by omega)).2 (Nat.le_of_ble_eq_true rfl) dX5_rule_39 (fun H locs hP hD hS => ?_)
          have hP : va_P (dC, dI) kxCl ((xU cI cB cE o r n (va_up z 13 p1) F G (Eo 0 0)) ++ (eP cI N Eo Er En Ez EF)) H := hP
          have hD : va_D A ((xU cI cB cE o r n (va_up z 13 p1) F G (Eo 0 0)) ++ (eP cI N Eo Er En Ez EF)) := hD
          refine lv_goto (tgt := 50) hx hb dX5_rule_42 (by decide) ?_
          refine lv_iload_n hx hb dX5_rule_50 rfl (lv_at hl 0 rfl) ?_
          refine lv_iload_n hx hb dX5_rule_51 rfl (lv_at hl 3 rfl) ?_
          refine ki_icmp_eq (tgt := 63) hx hb dX5_rule_52 (by decide) (by omega) (by omega) (by omega) (by omega) (fun c_52 => ?_) (fun c_52 => ?_)
          · skip
            refine lv_iload_n hx hb dX5_rule_63 rfl (lv_at hl 0 rfl) ?_
            refine ki_if_eq (tgt := 71) hx hb dX5_rule_64 (by decide) (by omega) (by omega) (fun c_53 => ?_) (fun c_53 => ?_)
            · skip
              refine lv_iconst (v := iz 0) hx hb dX5_rule_71 (by decide) ?_
              have hok54 : xOk n (va_up z 13 p1) F := (hok.s 13 (by decide) (show -2147483648 ≤ p1 ∧ p1 < 2147483648 by omega) (by omega))
              have hfr54 : xFr [13, 14, 15, 16] [] z F (va_up z 13 p1) F := (hfr.uz 13 (by decide) _)
              have hzo13 : (va_up z 13 p1) 13 = p1 := rfl
              have hzo14 : (va_up z 13 p1) 14 = z 14 := rfl
              refine vx_ret ?_
              exact xk_iret (ov := (fun u : (Int) × (Nat → Nat) × (Nat → Nat) × (Nat → Int) × (Nat → Int → Int) × (Nat → Nat → Nat) × (Nat → Nat → Nat) × (Nat → Nat → Int) × (Nat → Nat → Int → Int) => match u with | (q, r', n', z', F', Er', En', Ez', EF') => some (.int (iz q)))) (post := (fun (u : (Int) × (Nat → Nat) × (Nat → Nat) × (Nat → Int) × (Nat → Int → Int) × (Nat → Nat → Nat) × (Nat → Nat → Nat) × (Nat → Nat → Int) × (Nat → Nat → Int → Int)) (dn dm : Nat) => match u with | (q, r', n', z', F', Er', En', Ez', EF') => xR [13, 14, 15, 16] [] [2] [2] N z F En Ez EF n' z' F' En' Ez' EF' ∧ (dn + xg n' ≤ xg n + 720 ∧ dm + xp n' ≤ xp n + 9600) ∧ ((p0 = 0 ∧ q = z 13 ∧ z' 13 = p1 ∧ z' 14 = z 14) ∨ (p0 = 1 ∧ q = z 14 ∧ z' 14 = p1 ∧ z' 13 = z 13)))) (ws := (fun u : (Int) × (Nat → Nat) × (Nat → Nat) × (Nat → Int) × (Nat → Int → Int) × (Nat → Nat → Nat) × (Nat → Nat → Nat) × (Nat → Nat → Int) × (Nat → Nat → Int → Int) => match u with | (q, r', n', z', F', Er', En', Ez', EF') => (xU cI cB cE o r' n' z' F' G (Eo 0 0) ++ eP cI N Eo Er' En' Ez' EF'))) (tys := xT cI cB cE) (z := 0) (0, r, n, (va_up z 13 p1), F, Er, En, Ez, EF) hx hb hr rfl hlocks rfl hP hD hK hS dX5_rule_72 (fun dn dm hdn hdm => ⟨⟨hok54, hfr54, hPE, hef⟩, ⟨by omega, by omega⟩, by omega⟩) (by omega) (by omega)
            · skip
              refine lv_iconst (v := iz 1) hx hb dX5_rule_67 (by decide) ?_
              refine lv_goto (tgt := 72) hx hb dX5_rule_68 (by decide) ?_
              have hok55 : xOk n (va_up z 13 p1) F := (hok.s 13 (by decide) (show -2147483648 ≤ p1 ∧ p1 < 2147483648 by omega) (by omega))
              have hfr55 : xFr [13, 14, 15, 16] [] z F (va_up z 13 p1) F := (hfr.uz 13 (by decide) _)
              have hzo13 : (va_up z 13 p1) 13 = p1 := rfl
              have hzo14 : (va_up z 13 p1) 14 = z 14 := rfl
              refine vx_ret ?_
              exact xk_iret (ov := (fun u : (Int) × (Nat → Nat) × (Nat → Nat) × (Nat → Int) × (Nat → Int → Int) × (Nat → Nat → Nat) × (Nat → Nat → Nat) × (Nat → Nat → Int) × (Nat → Nat → Int → Int) => match u with | (q, r', n', z', F', Er', En', Ez', EF') => some (.int (iz q)))) (post := (fun (u : (Int) × (Nat → Nat) × (Nat → Nat) × (Nat → Int) × (Nat → Int → Int) × (Nat → Nat → Nat) × (Nat → Nat → Nat) × (Nat → Nat → Int) × (Nat → Nat → Int → Int)) (dn dm : Nat) => match u with | (q, r', n', z', F', Er', En', Ez', EF') => xR [13, 14, 15, 16] [] [2] [2] N z F En Ez EF n' z' F' En' Ez' EF' ∧ (dn + xg n' ≤ xg n + 720 ∧ dm + xp n' ≤ xp n + 9600) ∧ ((p0 = 0 ∧ q = z 13 ∧ z' 13 = p1 ∧ z' 14 = z 14) ∨ (p0 = 1 ∧ q = z 14 ∧ z' 14 = p1 ∧ z' 13 = z 13)))) (ws := (fun u : (Int) × (Nat → Nat) × (Nat → Nat) × (Nat → Int) × (Nat → Int → Int) × (Nat → Nat → Nat) × (Nat → Nat → Nat) × (Nat → Nat → Int) × (Nat → Nat → Int → Int) => match u with | (q, r', n', z', F', Er', En', Ez', EF') => (xU cI cB cE o r' n' z' F' G (Eo 0 0) ++ eP cI N Eo Er' En' Ez' EF'))) (tys := xT cI cB cE) (z := 1) (1, r, n, (va_up z 13 p1), F, Er, En, Ez, EF) hx hb hr rfl hlocks rfl hP hD hK hS dX5_rule_72 (fun dn dm hdn hdm => ⟨⟨hok55, hfr55, hPE, hef⟩, ⟨by omega, by omega⟩, by omega⟩) (by omega) (by omega)
          · skip
            refine lv_aload_n hx hb dX5_rule_55 rfl (lv_at hl 1 rfl) ?_
            have hok56 : xOk n (va_up z 13 p1) F := (hok.s 13 (by decide) (show -2147483648 ≤ p1 ∧ p1 < 2147483648 by omega) (by omega))
            have hfr56 : xFr [13, 14, 15, 16] [] z F (va_up z 13 p1) F := (hfr.uz 13 (by decide) _)
            have hxz_57 : -2147483648 ≤ z 12 ∧ z 12 < 2147483648 := hok.2.2.2.1 12
            have hxG9 : xG N (z 12) G Eo := ⟨by omega, by omega, by omega, fun e9 h9 => hN4 e9 (by omega)⟩
            have hP : va_P (dC, dI) kxCl (xU cI cB cE o r n (va_up z 13 p1) F G (Eo 0 0) ++ eP cI N Eo Er En Ez EF) H := hP
            have hD : va_D A (xU cI cB cE o r n (va_up z 13 p1) F G (Eo 0 0) ++ eP cI N Eo Er En Ez EF) := hD
            have hFc := xw_free hD hS hA
            refine xk_call (va_runV (As := []) (rest := []) ⟨hx, hb, hml, hown, hts⟩ (y_makeKeys l dC dI cI cB cE o r n (va_up z 13 p1) F G N Eo Er En Ez EF  H.size hok56 hxG9 hPE ) (cwV 0 hts (kx_gV kq_21_xcalls_2 kq_21_xcalls_3 kq_21_xcalls_4 kq_18_xrows_4 kq_21_xcalls_5 rfl) rfl rfl rfl (by decide +kernel) ⟨Nat.le_of_ble_eq_true rfl, Nat.le_of_ble_eq_true rfl⟩) ⟨kx_blind, va_recv hK hP (ci := 5) (q0 := 0) rfl rfl, kx_give (ws := []) (tys := []) hP hD hK hG hZ hS hFc⟩ rfl rfl hl.1 rfl (lv_room (Nat.le_of_ble_eq_true rfl)) dX5_rule_56 ⟨show 0 + 900 ≤ 1000 from (by omega), show 0 + 55000 ≤ 60000 from (by omega)⟩) hS (fun q _ h => hFc q h) hFc (fun u dn_60 dm_61 t H locs ht hvm hq_58 hB hk1 hS => ?_)
            obtain ⟨r_62, n_63, z_64, F_65, Er_66, En_67, Ez_68, EF_69⟩ := u
            obtain ⟨hP, hK1, hD1⟩ := hB
            rw [ht] at hP
            have hD := hD1.weaken (fun _ q _ h => hFc _ h)
            obtain ⟨hR70, hC70, hq_58⟩ := hq_58
            have hok70 := hR70.1
            have hfr70 := hfr56.tr (hR70.2.1.mono (S' := [13, 14, 15, 16]) (T' := []) (by decide) (by decide))
            have hPE70 := hR70.2.2.1
            have hef70 := hef.tr (hR70.2.2.2.mono (S' := [2]) (T' := [2]) (by decide) (by decide))
            have hz70 : z_64 12 = (z 12) := hR70.2.1.1 12 (by decide)
            have hkr70_13 : z_64 13 = p1 := hR70.2.1.1 13 (by decide)
            have hkr70_14 : z_64 14 = z 14 := hR70.2.1.1 14 (by decide)
            refine W.eq (g2 := F0 m 59 ls []) rfl ?_
            try dsimp only at hq_58
            try simp (decide := true) only [va_ev, ↓reduceIte] at hq_58
            refine lv_aload_n hx hb dX5_rule_59 rfl (lv_at hl 1 rfl) ?_
            have hxz_71 : -2147483648 ≤ z_64 12 ∧ z_64 12 < 2147483648 := hok70.2.2.2.1 12
            have hxG9 : xG N (z_64 12) G Eo := ⟨by omega, by omega, by omega, fun e9 h9 => hN4 e9 (by omega)⟩
            have hP : va_P (dC, dI) kxCl (xU cI cB cE o r_62 n_63 z_64 F_65 G (Eo 0 0) ++ eP cI N Eo Er_66 En_67 Ez_68 EF_69) H := hP
            have hD : va_D A (xU cI cB cE o r_62 n_63 z_64 F_65 G (Eo 0 0) ++ eP cI N Eo Er_66 En_67 Ez_68 EF_69) := hD
            have hFc := xw_free hD hS hA
            refine xk_call (va_runV (As := []) (rest := []) ⟨hx, hb, hml, hown, hts⟩ (y_forgetRows l dC dI cI cB cE o r_62 n_63 z_64 F_65 G N Eo Er_66 En_67 Ez_68 EF_69  H.size hok70 hxG9 hPE70 ) (cwV 0 hts (kx_gV kq_21_xcalls_6 kq_21_xcalls_7 kq_21_xcalls_8 kq_18_xrows_4 kq_21_xcalls_9 rfl) rfl rfl rfl (by decide +kernel) ⟨Nat.le_of_ble_eq_true rfl, Nat.le_of_ble_eq_true rfl⟩) ⟨kx_blind, va_recv hK hP (ci := 5) (q0 := 0) rfl rfl, kx_give (ws := []) (tys := []) hP hD hK hG hZ hS hFc⟩ rfl rfl hl.1 rfl (lv_room (Nat.le_of_ble_eq_true rfl)) dX5_rule_60 ⟨show (0 + dn_60) + 0 ≤ 1000 from (by omega), show (0 + dm_61) + 0 ≤ 60000 from (by omega)⟩) hS (fun q _ h => hFc q h) hFc (fun u dn_74 dm_75 t H locs ht hvm hq_72 hB hk1 hS => ?_)
            obtain ⟨r_76, n_77, z_78, F_79, Er_80, En_81, Ez_82, EF_83⟩ := u
            obtain ⟨hP, hK1, hD1⟩ := hB
            rw [ht] at hP
            have hD := hD1.weaken (fun _ q _ h => hFc _ h)
            obtain ⟨hR84, hC84, hq_72⟩ := hq_72
            obtain ⟨rfl, rfl, rfl, rfl, rfl, rfl, rfl, hq_72⟩ := hq_72
            subst hq_72
            have hP : va_P (dC, dI) kxCl ((xU cI cB cE o r_62 n_63 (va_up (va_up z_64 15 0) 16 (-1)) F_65 G (Eo 0 0)) ++ (eP cI N Eo Er_66 En_67 Ez_68 EF_69)) H := hP
            have hD : va_D A ((xU cI cB cE o r_62 n_63 (va_up (va_up z_64 15 0) 16 (-1)) F_65 G (Eo 0 0)) ++ (eP cI N Eo Er_66 En_67 Ez_68 EF_69)) := hD
            refine W.eq (g2 := F0 m 63 ls []) rfl ?_
            refine lv_iload_n hx hb dX5_rule_63 rfl (lv_at hl 0 rfl) ?_
            refine ki_if_eq (tgt := 71) hx hb dX5_rule_64 (by decide) (by omega) (by omega) (fun c_85 => ?_) (fun c_85 => ?_)
            · skip
              refine lv_iconst (v := iz 0) hx hb dX5_rule_71 (by decide) ?_
              have hxz_86 : -2147483648 ≤ z_64 15 ∧ z_64 15 < 2147483648 := hok70.2.2.2.1 15
              have hxb_87 : z_64 15 = 0 ∨ z_64 15 = 1 := hok70.2.2.2.2 15 (by decide)
              have hxz_88 : -2147483648 ≤ z_64 16 ∧ z_64 16 < 2147483648 := hok70.2.2.2.1 16
              have hok89 : xOk n_63 (va_up (va_up z_64 15 0) 16 (-1)) F_65 := ((hok70.s 15 (by decide) (show -2147483648 ≤ 0 ∧ 0 < 2147483648 by omega) (by omega)).s 16 (by decide) (show -2147483648 ≤ (-1) ∧ (-1) < 2147483648 by omega) (by omega))
              have hfr89 : xFr [13, 14, 15, 16] [] z F (va_up (va_up z_64 15 0) 16 (-1)) F_65 := ((hfr70.uz 15 (by decide) _).uz 16 (by decide) _)
              have hzo13 : (va_up (va_up z_64 15 0) 16 (-1)) 13 = z_64 13 := rfl
              have hzo14 : (va_up (va_up z_64 15 0) 16 (-1)) 14 = z_64 14 := rfl
              refine vx_ret ?_
              exact xk_iret (ov := (fun u : (Int) × (Nat → Nat) × (Nat → Nat) × (Nat → Int) × (Nat → Int → Int) × (Nat → Nat → Nat) × (Nat → Nat → Nat) × (Nat → Nat → Int) × (Nat → Nat → Int → Int) => match u with | (q, r', n', z', F', Er', En', Ez', EF') => some (.int (iz q)))) (post := (fun (u : (Int) × (Nat → Nat) × (Nat → Nat) × (Nat → Int) × (Nat → Int → Int) × (Nat → Nat → Nat) × (Nat → Nat → Nat) × (Nat → Nat → Int) × (Nat → Nat → Int → Int)) (dn dm : Nat) => match u with | (q, r', n', z', F', Er', En', Ez', EF') => xR [13, 14, 15, 16] [] [2] [2] N z F En Ez EF n' z' F' En' Ez' EF' ∧ (dn + xg n' ≤ xg n + 720 ∧ dm + xp n' ≤ xp n + 9600) ∧ ((p0 = 0 ∧ q = z 13 ∧ z' 13 = p1 ∧ z' 14 = z 14) ∨ (p0 = 1 ∧ q = z 14 ∧ z' 14 = p1 ∧ z' 13 = z 13)))) (ws := (fun u : (Int) × (Nat → Nat) × (Nat → Nat) × (Nat → Int) × (Nat → Int → Int) × (Nat → Nat → Nat) × (Nat → Nat → Nat) × (Nat → Nat → Int) × (Nat → Nat → Int → Int) => match u with | (q, r', n', z', F', Er', En', Ez', EF') => (xU cI cB cE o r' n' z' F' G (Eo 0 0) ++ eP cI N Eo Er' En' Ez' EF'))) (tys := xT cI cB cE) (z := 0) (0, r_62, n_63, (va_up (va_up z_64 15 0) 16 (-1)), F_65, Er_66, En_67, Ez_68, EF_69) hx hb hr rfl hlocks rfl hP hD hK hS dX5_rule_72 (fun dn dm hdn hdm => ⟨⟨hok89, hfr89, hPE70, hef70⟩, ⟨by omega, by omega⟩, by omega⟩) (by omega) (by omega)
            · skip
              refine lv_iconst (v := iz 1) hx hb dX5_rule_67 (by decide) ?_
              refine lv_goto (tgt := 72) hx hb dX5_rule_68 (by decide) ?_
              have hxz_90 : -2147483648 ≤ z_64 15 ∧ z_64 15 < 2147483648 := hok70.2.2.2.1 15
              have hxb_91 : z_64 15 = 0 ∨ z_64 15 = 1 := hok70.2.2.2.2 15 (by decide)
              have hxz_92 : -2147483648 ≤ z_64 16 ∧ z_64 16 < 2147483648 := hok70.2.2.2.1 16
              have hok93 : xOk n_63 (va_up (va_up z_64 15 0) 16 (-1)) F_65 := ((hok70.s 15 (by decide) (show -2147483648 ≤ 0 ∧ 0 < 2147483648 by omega) (by omega)).s 16 (by decide) (show -2147483648 ≤ (-1) ∧ (-1) < 2147483648 by omega) (by omega))
              have hfr93 : xFr [13, 14, 15, 16] [] z F (va_up (va_up z_64 15 0) 16 (-1)) F_65 := ((hfr70.uz 15 (by decide) _).uz 16 (by decide) _)
              have hzo13 : (va_up (va_up z_64 15 0) 16 (-1)) 13 = z_64 13 := rfl
              have hzo14 : (va_up (va_up z_64 15 0) 16 (-1)) 14 = z_64 14 := rfl
              refine vx_ret ?_
              exact xk_iret (ov := (fun u : (Int) × (Nat → Nat) × (Nat → Nat) × (Nat → Int) × (Nat → Int → Int) × (Nat → Nat → Nat) × (Nat → Nat → Nat) × (Nat → Nat → Int) × (Nat → Nat → Int → Int) => match u with | (q, r', n', z', F', Er', En', Ez', EF') => some (.int (iz q)))) (post := (fun (u : (Int) × (Nat → Nat) × (Nat → Nat) × (Nat → Int) × (Nat → Int → Int) × (Nat → Nat → Nat) × (Nat → Nat → Nat) × (Nat → Nat → Int) × (Nat → Nat → Int → Int)) (dn dm : Nat) => match u with | (q, r', n', z', F', Er', En', Ez', EF') => xR [13, 14, 15, 16] [] [2] [2] N z F En Ez EF n' z' F' En' Ez' EF' ∧ (dn + xg n' ≤ xg n + 720 ∧ dm + xp n' ≤ xp n + 9600) ∧ ((p0 = 0 ∧ q = z 13 ∧ z' 13 = p1 ∧ z' 14 = z 14) ∨ (p0 = 1 ∧ q = z 14 ∧ z' 14 = p1 ∧ z' 13 = z 13)))) (ws := (fun u : (Int) × (Nat → Nat) × (Nat → Nat) × (Nat → Int) × (Nat → Int → Int) × (Nat → Nat → Nat) × (Nat → Nat → Nat) × (Nat → Nat → Int) × (Nat → Nat → Int → Int) => match u with | (q, r', n', z', F', Er', En', Ez', EF') => (xU cI cB cE o r' n' z' F' G (Eo 0 0) ++ eP cI N Eo Er' En' Ez' EF'))) (tys := xT cI cB cE) (z := 1) (1, r_62, n_63, (va_up (va_up z_64 15 0) 16 (-1)), F_65, Er_66, En_67, Ez_68, EF_69) hx hb hr rfl hlocks rfl hP hD hK hS dX5_rule_72 (fun dn dm hdn hdm => ⟨⟨hok93, hfr93, hPE70, hef70⟩, ⟨by omega, by omega⟩, by omega⟩) (by omega) (by omega)
    · skip
      exact ky_thr_IAE hx hb hlf hown hG hZ hS (hl.1.trans hml.symm) dX5_rule_9 dX5_rule_12 dX5_rule_13 dX5_rule_16 htab (Nat.le_of_ble_eq_true rfl) (Nat.le_of_ble_eq_true rfl) (show 0 + 1 ≤ 1000 from (by omega)) (show 0 + 6 ≤ 60000 from (by omega)) hlocks (⟨rfl, by first | trivial | omega⟩) (fun t hvm h1 h2 => ⟨(r, n, z, F, Er, En, Ez, EF), ⟨hok, xFr.rf, hPE, eFr.rf⟩, hP.kept (fun k q hk => h2 q.1 (hP k q hk).lt), va_K.moved hvm hK, hD⟩) hS.2.2 (by omega) (by omega) (by omega) (by omega)
set_option maxHeartbeats 4000000 in
set_option maxRecDepth 100000 in
theorem y_sign (l : Launch) (hlf : l.stackTraces = false) (dC : Nat → ClassId) (dI : Nat → Nat → Nat) (cI cB cE : ClassId) (o r n : Nat → Nat) (z : Nat → Int) (F : Nat → Int → Int) (G : Nat → Option Nat) (N : Nat) (Eo Er En : Nat → Nat → Nat) (Ez : Nat → Nat → Int) (EF : Nat → Nat → Int → Int) (p0 : Int) (p1 : Int) (sz : Nat) (hok : xOk n z F) (hxG : xG N (z 12) G Eo) (hPE : eA N En Ez EF) (hp01 : -2147483648 ≤ p0) (hp02 : p0 < 2147483648) (hp11 : -2147483648 ≤ p1) (hp12 : p1 < 2147483648) : vx_Met l yX5_sign [.code yX5_sign cX5_sign 4 (some .int)] ({ frames := 8, cells := 200, slots := 60000, locals := 152 }) (va_Pc [.ref (o 15), .int (iz p0), .int (iz p1)] (kx_Pre dC dI (xU cI cB cE o r n z F G (Eo 0 0) ++ eP cI N Eo Er En Ez EF) (xT cI cB cE) sz)) (xQ (fun u : (Int) × (Nat → Nat) × (Nat → Nat) × (Nat → Int) × (Nat → Int → Int) × (Nat → Nat → Nat) × (Nat → Nat → Nat) × (Nat → Nat → Int) × (Nat → Nat → Int → Int) => match u with | (q, r', n', z', F', Er', En', Ez', EF') => some (.int (iz q))) (fun (u : (Int) × (Nat → Nat) × (Nat → Nat) × (Nat → Int) × (Nat → Int → Int) × (Nat → Nat → Nat) × (Nat → Nat → Nat) × (Nat → Nat → Int) × (Nat → Nat → Int → Int)) (dn dm : Nat) => match u with | (q, r', n', z', F', Er', En', Ez', EF') => xR [15, 16] [] [0, 1, 2] [0, 1, 2] N z F En Ez EF n' z' F' En' Ez' EF' ∧ (dn + xg n' ≤ xg n + 50 ∧ dm + xp n' ≤ xp n + 400) ∧ ((0 ≤ p0 ∧ p0 < z 12) ∧ (0 ≤ p1 ∧ p1 ≤ 255) ∧ Ez ((p0 + 1).toNat) 0 < 20 ∧ q = Ez ((p0 + 1).toNat) 0 + 1 ∧ Ez' ((p0 + 1).toNat) 0 = Ez ((p0 + 1).toNat) 0 + 1 ∧ (∀ j, j ≠ ((p0 + 1).toNat) → Ez' j = Ez j ∧ EF' j = EF j))) (fun u t => kx_At dC dI (va_A (xU cI cB cE o r n z F G (Eo 0 0) ++ eP cI N Eo Er En Ez EF) sz) ((fun u : (Int) × (Nat → Nat) × (Nat → Nat) × (Nat → Int) × (Nat → Int → Int) × (Nat → Nat → Nat) × (Nat → Nat → Nat) × (Nat → Nat → Int) × (Nat → Nat → Int → Int) => match u with | (q, r', n', z', F', Er', En', Ez', EF') => (xU cI cB cE o r' n' z' F' G (Eo 0 0) ++ eP cI N Eo Er' En' Ez' EF')) u) (xT cI cB cE) t) (va_A (xU cI cB cE o r n z F G (Eo 0 0) ++ eP cI N Eo Er En Ez EF) sz)) (yX (fun E => (E = "java/util/NoSuchElementException" ∧ (¬ (0 ≤ p0 ∧ p0 < z 12))) ∨ (E = "java/lang/IllegalArgumentException" ∧ ((0 ≤ p0 ∧ p0 < z 12) ∧ (p1 < 0 ∨ 255 < p1))) ∨ (E = "java/lang/UnsupportedOperationException" ∧ ((0 ≤ p0 ∧ p0 < z 12) ∧ (0 ≤ p1 ∧ p1 ≤ 255) ∧ 20 ≤ Ez ((p0 + 1).toNat) 0))) 2 12 (fun t => ∃ u : (Nat → Nat) × (Nat → Nat) × (Nat → Int) × (Nat → Int → Int) × (Nat → Nat → Nat) × (Nat → Nat → Nat) × (Nat → Nat → Int) × (Nat → Nat → Int → Int), match u with | (r', n', z', F', Er', En', Ez', EF') => xR [] [] [] [] N z F En Ez EF n' z' F' En' Ez' EF' ∧ kx_At dC dI (va_A (xU cI cB cE o r n z F G (Eo 0 0) ++ eP cI N Eo Er En Ez EF) sz) (xU cI cB cE o r' n' z' F' G (Eo 0 0) ++ eP cI N Eo Er' En' Ez' EF') (xT cI cB cE) t) (va_A (xU cI cB cE o r n z F G (Eo 0 0) ++ eP cI N Eo Er En Ez EF) sz)) 200 60000 (va_A (xU cI cB cE o r n z F G (Eo 0 0) ++ eP cI N Eo Er En Ez EF) sz) := by
  refine vx_ofW (cc := cX5_sign) (maxL := 4) (ret := (some .int)) (by decide) rfl ?_
  intro p e s m args below meth c s₁ B hml htab hv
  obtain ⟨rfl, hsz, hP, hK, hD0, hG, hZ⟩ := hv
  have hx := B.exec
  have hb := B.bytes
  have hr := B.returns
  have hts := kx_hts (a := ([.ref (o 15), .int (iz p0), .int (iz p1)] : List Value).toArray) hG
  have hown : s.vm.findClass RX5 = some m.cls := findClass_of_methodNamed B.named
  have hlocks := B.notSynchronized
  subst hsz
  have hD := hD0.self (sz := s.heap.size)
  generalize hAe : va_A (xU cI cB cE o r n z F G (Eo 0 0) ++ eP cI N Eo Er En Ez EF) s.heap.size = A at hD hZ ⊢
  have hA : ∀ q : Nat, s.heap.size ≤ q → A q := fun q h => by rw [← hAe]; exact Or.inr h
  have hS : va_S A s.heap s.heap [] := va_S.rf
  have hl := lv_entry ([.ref (o 15), .int (iz p0), .int (iz p1)]) (n := 4) (Nat.le_of_ble_eq_true rfl)
  rw [lg_entry_eq]
  generalize (lg_sl ([.ref (o 15), .int (iz p0), .int (iz p1)]) ++ List.replicate (4 - (lg_sl ([.ref (o 15), .int (iz p0), .int (iz p1)])).length) Slot.unset).toArray = ls at hl ⊢
  obtain ⟨hN1, hN2, hN3, hN4⟩ := hxG
  have hef : eFr [0, 1, 2] [0, 1, 2] En Ez EF En Ez EF := eFr.rf
  have hfr : xFr [15, 16] [] z F z F := xFr.rf
  have hxgl := xg_le n
  have hxpl := xp_le n
  have hl : lv_has ls 4 [(0, .ref (o 15)), (1, .int (iz p0)), (2, .int (iz p1))] := hl
  refine lv_aload_n hx hb dX5_sign_0 rfl (lv_at hl 0 rfl) ?_
  refine lv_iload_n hx hb dX5_sign_1 rfl (lv_at hl 1 rfl) ?_
  have hxz_1 : -2147483648 ≤ z 12 ∧ z 12 < 2147483648 := hok.2.2.2.1 12
  have hxG9 : xG N (z 12) G Eo := ⟨by omega, by omega, by omega, fun e9 h9 => hN4 e9 (by omega)⟩
  have hP : va_P (dC, dI) kxCl (xU cI cB cE o r n z F G (Eo 0 0) ++ eP cI N Eo Er En Ez EF) s.heap := hP
  have hD : va_D A (xU cI cB cE o r n z F G (Eo 0 0) ++ eP cI N Eo Er En Ez EF) := hD
  have hFc := xw_free hD hS hA
  refine yk_call (vx_runV (As := [.int (iz p0)]) (rest := []) ⟨hx, hb, hml, hown, hts⟩ (y_needEntry l hlf dC dI cI cB cE o r n z F G N Eo Er En Ez EF p0 s.heap.size hok hxG9 hPE (by omega) (by omega)) (cwV 1 hts (kx_gV kq_21_xcalls_10 kq_21_xcalls_11 kq_21_xcalls_12 kq_18_xrows_4 kq_21_xcalls_13 rfl) rfl rfl rfl (by decide +kernel) ⟨Nat.le_of_ble_eq_true rfl, Nat.le_of_ble_eq_true rfl⟩) ⟨kx_blind, va_recv hK hP (ci := 5) (q0 := 0) rfl rfl, kx_give (ws := []) (tys := []) hP hD hK hG hZ hS hFc⟩ rfl rfl hl.1 rfl (lv_room (Nat.le_of_ble_eq_true rfl)) dX5_sign_2 ⟨show 0 + 1 ≤ 200 from (by omega), show 0 + 6 ≤ 60000 from (by omega)⟩) hS (fun q _ h => hFc q h) hFc (fun E ce q9 t H1 locs ht hvm hEx hBx hk1 hS hcell hcv hcl => ?_) (fun u dn_4 dm_5 t H locs ht hvm hq_2 hB hk1 hS => ?_)
  · skip
    exact ky_out (fun x hx => (htab x hx).elim) hlocks hcell hcv hcl (by obtain ⟨rfl, h9⟩ := hEx; exact Or.inl ⟨rfl, by first | trivial | omega⟩) (fun t9 ht9 hvm9 => by obtain ⟨⟨r8, n8, z8, F8, Er8, En8, Ez8, EF8⟩, hR8, hP8, hK8, hD8⟩ := hBx; exact ⟨(r8, n8, z8, F8, Er8, En8, Ez8, EF8), hR8, (by rw [ht9, ← ht]; exact hP8), va_K.moved hvm9 hK, hD8.weaken (fun _ q _ h => hFc _ h)⟩) hS hS.2.2 (by omega) (by omega) (by omega) (by omega)
  · skip
    obtain ⟨r_6, n_7, z_8, F_9, Er_10, En_11, Ez_12, EF_13⟩ := u
    obtain ⟨hP, hK1, hD1⟩ := hB
    rw [ht] at hP
    have hD := hD1.weaken (fun _ q _ h => hFc _ h)
    obtain ⟨hR14, hC14, hq_2⟩ := hq_2
    obtain ⟨rfl, rfl, rfl, rfl, rfl, rfl, rfl, hq_2⟩ := hq_2
    obtain ⟨rfl, hq_2⟩ := hq_2
    refine W.eq (g2 := F0 m 5 ls []) rfl ?_
    refine lv_iload_n hx hb dX5_sign_5 rfl (lv_at hl 2 rfl) ?_
    refine ki_if_lt (tgt := 16) hx hb dX5_sign_6 (by decide) (by omega) (by omega) (fun c_15 => ?_) (fun c_15 => ?_)
    · skip
      exact ky_thr_IAE hx hb hlf hown hG hZ hS (hl.1.trans hml.symm) dX5_sign_16 dX5_sign_19 dX5_sign_20 dX5_sign_23 htab (Nat.le_of_ble_eq_true rfl) (Nat.le_of_ble_eq_true rfl) (show (0 + dn_4) + 1 ≤ 200 from (by omega)) (show (0 + dm_5) + 6 ≤ 60000 from (by omega)) hlocks (Or.inr (Or.inl ⟨rfl, by first | trivial | omega⟩)) (fun t hvm h1 h2 => ⟨(r, n, z, F, Er, En, Ez, EF), ⟨hok, xFr.rf, hPE, eFr.rf⟩, hP.kept (fun k q hk => h2 q.1 (hP k q hk).lt), va_K.moved hvm hK, hD⟩) hS.2.2 (by omega) (by omega) (by omega) (by omega)
    · skip
      refine lv_iload_n hx hb dX5_sign_9 rfl (lv_at hl 2 rfl) ?_
      refine lv_sipush (v := iz 255) hx hb dX5_sign_10 (by decide) ?_
      refine ki_icmp_le (tgt := 24) hx hb dX5_sign_13 (by decide) (by omega) (by omega) (by omega) (by omega) (fun c_16 => ?_) (fun c_16 => ?_)
      · skip
        refine lv_aload_n hx hb dX5_sign_24 rfl (lv_at hl 0 rfl) ?_
        refine lv_iload_n hx hb dX5_sign_25 rfl (lv_at hl 1 rfl) ?_
        have hxG9 : xG N (z 12) G Eo := ⟨by omega, by omega, by omega, fun e9 h9 => hN4 e9 (by omega)⟩
        have hP : va_P (dC, dI) kxCl (xU cI cB cE o r n z F G (Eo 0 0) ++ eP cI N Eo Er En Ez EF) H := hP
        refine xk_pure (va_runV (As := [.int (iz p0)]) (rest := []) ⟨hx, hb, hml, hown, hts⟩ (y_known l dC dI cI cB cE o r n z F G N Eo Er En Ez EF p0 H.size hok hxG9 hPE (by omega) (by omega)) (cwV 1 hts (kx_gV kq_18_xrows_8 kq_18_xrows_9 kq_18_xrows_10 kq_18_xrows_4 kq_18_xrows_11 rfl) rfl rfl rfl (by decide +kernel) ⟨Nat.le_of_ble_eq_true rfl, Nat.le_of_ble_eq_true rfl⟩) ⟨pPre_blind, va_recv hK hP (ci := 5) (q0 := 0) rfl rfl, pPre_give hP hK hG⟩ rfl rfl hl.1 rfl (lv_room (Nat.le_of_ble_eq_true rfl)) dX5_sign_26 ⟨show (0 + dn_4) + 0 ≤ 200 from (by omega), show (0 + dm_5) + 0 ≤ 60000 from (by omega)⟩) hS (fun z_18 locs hq_17 hS => ?_)
        refine W.eq (g2 := F0 m 29 ls [.ref z_18.toNat]) rfl ?_
        try dsimp only at hq_17
        obtain ⟨j19, hj19, ez19, hje19⟩ := hq_17
        subst ez19
        refine W.eq (g2 := F0 m 29 ls [.ref (Eo j19 0)]) rfl ?_
        have ej19 : j19 = (p0 + 1).toNat := by omega
        subst ej19
        refine lv_astore_n (lv' := [(3, .ref (Eo ((p0 + 1).toNat) 0)), (0, .ref (o 15)), (1, .int (iz p0)), (2, .int (iz p1))]) hx hb dX5_sign_29 rfl hl (by decide) rfl (fun ls hl => ?_)
        refine lv_aload_n hx hb dX5_sign_30 rfl (lv_at hl 0 rfl) ?_
        have hP := eP_foc hj19 hP
        have hD := eD_foc hj19 hD
        refine va_getN (D := (dC, dI)) (ci := 0) (v := .ref (Eo ((p0 + 1).toNat) 1)) (C := RX0) (T := TX0) (N := 12) hx hb hts kt_X0 hown hK hP 29 rfl rfl 2 (by decide) (va_Nw.use rfl (kx_nf hG kq_19_xouts_70)) (fun _ h9 => h9) rfl dX5_sign_31 ?_
        have he_20 : 0 ≤ Ez ((p0 + 1).toNat) 0 ∧ Ez ((p0 + 1).toNat) 0 ≤ ((En ((p0 + 1).toNat) 0 : Nat) : Int) ∧ ((En ((p0 + 1).toNat) 0 : Nat) : Int) ≤ 20 := (hPE ((p0 + 1).toNat) hj19).1 0 (by decide)
        have hPc := hP.sub (ws' := (iU cI 20 (Eo ((p0 + 1).toNat) 1) (Er ((p0 + 1).toNat) 0) (En ((p0 + 1).toNat) 0) (Ez ((p0 + 1).toNat) 0) (EF ((p0 + 1).toNat) 0))) [30, 31] rfl
        refine xk_pure (va_runV (As := []) (rest := []) ⟨hx, hb, hml, hown, hts⟩ (x_isFull l dC dI cI cB cE 20 (Eo ((p0 + 1).toNat) 1) (Er ((p0 + 1).toNat) 0) (En ((p0 + 1).toNat) 0) (Ez ((p0 + 1).toNat) 0) (EF ((p0 + 1).toNat) 0)  H.size (by omega)) (cwV 0 hts (kx_gV kq_21_xcalls_1 kq_15_xspan_35 kq_15_xspan_36 kq_13_xints_6 kq_15_xspan_37 rfl) rfl rfl rfl (by decide +kernel) ⟨Nat.le_of_ble_eq_true rfl, Nat.le_of_ble_eq_true rfl⟩) ⟨pPre_blind, va_recv hK hPc (ci := 1) (q0 := 0) rfl rfl, pPre_give hPc hK hG⟩ rfl rfl hl.1 rfl (lv_room (Nat.le_of_ble_eq_true rfl)) dX5_sign_34 ⟨show (0 + dn_4) + 0 ≤ 200 from (by omega), show (0 + dm_5) + 0 ≤ 60000 from (by omega)⟩) hS (fun z_22 locs hq_21 hS => ?_)
        refine W.eq (g2 := F0 m 37 ls [.int (iz z_22)]) rfl ?_
        try dsimp only at hq_21
        rcases hq_21 with ⟨rfl, hq_21⟩ | ⟨rfl, hq_21⟩
        · skip
          refine ki_if_eq (tgt := 48) hx hb dX5_sign_37 (by decide) (by omega) (by omega) (fun c_23 => ?_) (fun c_23 => ?_)
          · omega
          · skip
            have hP := eP_un0 hj19 hP
            have hD := eD_un0 hj19 hD
            exact ky_thr_UOE hx hb hlf hown hG hZ hS (hl.1.trans hml.symm) dX5_sign_40 dX5_sign_43 dX5_sign_44 dX5_sign_47 htab (Nat.le_of_ble_eq_true rfl) (Nat.le_of_ble_eq_true rfl) (show (0 + dn_4) + 1 ≤ 200 from (by omega)) (show (0 + dm_5) + 6 ≤ 60000 from (by omega)) hlocks (Or.inr (Or.inr (⟨rfl, by first | trivial | omega⟩))) (fun t hvm h1 h2 => ⟨(r, n, z, F, Er, En, Ez, EF), ⟨hok, xFr.rf, hPE, eFr.rf⟩, hP.kept (fun k q hk => h2 q.1 (hP k q hk).lt), va_K.moved hvm hK, hD⟩) hS.2.2 (by omega) (by omega) (by omega) (by omega)
        · skip
          refine ki_if_eq (tgt := 48) hx hb dX5_sign_37 (by decide) (by omega) (by omega) (fun c_24 => ?_) (fun c_24 => ?_)
          · skip
            refine lv_aload_n hx hb dX5_sign_48 rfl (lv_at hl 0 rfl) ?_
            refine lv_iload_n hx hb dX5_sign_49 rfl (lv_at hl 3 rfl) ?_
            have hPc := hP.sub (ws' := (eU cI (Eo ((p0 + 1).toNat)) (Er ((p0 + 1).toNat)) (En ((p0 + 1).toNat)) (Ez ((p0 + 1).toNat)) (EF ((p0 + 1).toNat)))) [29, 30, 31, 32, 33, 34, 35, 36, 37, 38, 39, 40, 41, 42, 43, 44] rfl
            have hDc := hD.sub (ws' := (eU cI (Eo ((p0 + 1).toNat)) (Er ((p0 + 1).toNat)) (En ((p0 + 1).toNat)) (Ez ((p0 + 1).toNat)) (EF ((p0 + 1).toNat)))) [29, 30, 31, 32, 33, 34, 35, 36, 37, 38, 39, 40, 41, 42, 43, 44] (by decide) rfl
            have hFc := va_free (wc := (eU cI (Eo ((p0 + 1).toNat)) (Er ((p0 + 1).toNat)) (En ((p0 + 1).toNat)) (Ez ((p0 + 1).toNat)) (EF ((p0 + 1).toNat)))) hD hS hA [29, 30, 31, 32, 33, 34, 35, 36, 37, 38, 39, 40, 41, 42, 43, 44] rfl
            refine xk_call (va_runV (As := [.int (iz p1)]) (rest := []) ⟨hx, hb, hml, hown, hts⟩ (x_addSign l dC dI cI cB cE (Eo ((p0 + 1).toNat)) (Er ((p0 + 1).toNat)) (En ((p0 + 1).toNat)) (Ez ((p0 + 1).toNat)) (EF ((p0 + 1).toNat)) p1 H.size (hPE ((p0 + 1).toNat) hj19) (by omega) (by omega) (by omega)) (cwV 1 hts (kx_gV kq_21_xcalls_14 kq_21_xcalls_15 kq_21_xcalls_16 kq_16_xentry_2 kq_21_xcalls_17 rfl) rfl rfl rfl (by decide +kernel) ⟨Nat.le_of_ble_eq_true rfl, Nat.le_of_ble_eq_true rfl⟩) ⟨kx_blind, va_recv hK hPc (ci := 0) (q0 := 0) rfl rfl, kx_give (ws := []) (tys := []) hPc hDc hK hG hZ hS hFc⟩ rfl rfl hl.1 rfl (lv_room (Nat.le_of_ble_eq_true rfl)) dX5_sign_50 ⟨show (0 + dn_4) + 20 ≤ 200 from (by omega), show (0 + dm_5) + 4800 ≤ 60000 from (by omega)⟩) hS (fun q _ h => hFc q h) hFc (fun u dn_26 dm_27 t H locs ht hvm hq_25 hB hk1 hS => ?_)
            obtain ⟨r0_28, n0_29, z0_30, F0_31, r1_32, n1_33, z1_34, F1_35⟩ := u
            obtain ⟨hP1, hK1, hD1⟩ := hB
            rw [ht] at hP1
            obtain ⟨hP, hD⟩ := xj_pool (wr := [(o 15, .inr (5, [.ref (o 16), .ref (Eo 0 0), .int (iz (z 12)), .int (iz (z 13)), .int (iz (z 14)), .ref (o 0), .ref (o 1), .int (iz (z 15)), .ref (o 13), .ref (o 14), .int (iz (z 16)), .ref (o 2), .ref (o 12), .ref (o 3), .ref (o 10), .ref (o 11)])), (o 16, .inl (cE, 80, .inr (.inr (.inr (.inr G))))), (o 0, .inr (1, [.int (iz 80), .ref (r 0), .int (iz (z 0))])), (r 0, .inl (cI, n 0, .inl (iA (F 0)))), (o 1, .inr (1, [.int (iz 80), .ref (r 1), .int (iz (z 1))])), (r 1, .inl (cI, n 1, .inl (iA (F 1)))), (o 2, .inr (1, [.int (iz 80), .ref (r 2), .int (iz (z 2))])), (r 2, .inl (cI, n 2, .inl (iA (F 2)))), (o 3, .inr (1, [.int (iz 80), .ref (r 3), .int (iz (z 3))])), (r 3, .inl (cI, n 3, .inl (iA (F 3)))), (o 13, .inr (3, [.ref (o 4), .ref (o 5), .ref (o 6)])), (o 4, .inr (1, [.int (iz 1600), .ref (r 4), .int (iz (z 4))])), (r 4, .inl (cI, n 4, .inl (iA (F 4)))), (o 5, .inr (1, [.int (iz 1600), .ref (r 5), .int (iz (z 5))])), (r 5, .inl (cI, n 5, .inl (iA (F 5)))), (o 6, .inr (1, [.int (iz 1600), .ref (r 6), .int (iz (z 6))])), (r 6, .inl (cI, n 6, .inl (iA (F 6)))), (o 14, .inr (3, [.ref (o 7), .ref (o 8), .ref (o 9)])), (o 7, .inr (1, [.int (iz 1600), .ref (r 7), .int (iz (z 7))])), (r 7, .inl (cI, n 7, .inl (iA (F 7)))), (o 8, .inr (1, [.int (iz 1600), .ref (r 8), .int (iz (z 8))])), (r 8, .inl (cI, n 8, .inl (iA (F 8)))), (o 9, .inr (1, [.int (iz 1600), .ref (r 9), .int (iz (z 9))])), (r 9, .inl (cI, n 9, .inl (iA (F 9)))), (o 12, .inr (4, [.int (iz (z 17)), .int (iz (z 18)), .int (iz (z 19)), .int (iz (z 20)), .int (iz (z 21))])), (o 10, .inr (2, [.ref (r 10), .int (iz (z 10)), .int (iz (z 22))])), (r 10, .inl (cB, n 10, .inl (iA (F 10)))), (o 11, .inr (2, [.ref (r 11), .int (iz (z 11)), .int (iz (z 23))])), (r 11, .inl (cB, n 11, .inl (iA (F 11))))]) (w1 := (eU cI (Eo ((p0 + 1).toNat)) (va_up (va_up (Er ((p0 + 1).toNat)) 0 r0_28) 1 r1_32) (va_up (va_up (En ((p0 + 1).toNat)) 0 n0_29) 1 n1_33) (va_up (va_up (Ez ((p0 + 1).toNat)) 0 z0_30) 1 z1_34) (va_up (va_up (EF ((p0 + 1).toNat)) 0 F0_31) 1 F1_35))) (ws' := ((xU cI cB cE o r n z F G (Eo 0 0)) ++ (eU cI (Eo ((p0 + 1).toNat)) (va_up (va_up (Er ((p0 + 1).toNat)) 0 r0_28) 1 r1_32) (va_up (va_up (En ((p0 + 1).toNat)) 0 n0_29) 1 n1_33) (va_up (va_up (Ez ((p0 + 1).toNat)) 0 z0_30) 1 z1_34) (va_up (va_up (EF ((p0 + 1).toNat)) 0 F0_31) 1 F1_35)))) hP hD [29, 30, 31, 32, 33, 34, 35, 36, 37, 38, 39, 40, 41, 42, 43, 44] [0, 1, 2, 3, 4, 5, 6, 7, 8, 9, 10, 11, 12, 13, 14, 15, 16, 17, 18, 19, 20, 21, 22, 23, 24, 25, 26, 27, 28] [0, 1, 2, 3, 4, 5, 6, 7, 8, 9, 10, 11, 12, 13, 14, 15, 16, 17, 18, 19, 20, 21, 22, 23, 24, 25, 26, 27, 28, 29, 30, 31, 32, 33, 34, 35, 36, 37, 38, 39, 40, 41, 42, 43, 44] rfl rfl (by decide) (by decide) hk1 hFc hP1 hD1 rfl (by decide)
            refine W.eq (g2 := F0 m 53 ls []) rfl ?_
            try dsimp only at hq_25
            obtain ⟨⟨ha36, hb036⟩, ⟨hb36, hb136⟩, hc36, hd36⟩ := hq_25
            have hax36 := hd36.1
            refine lv_aload_n hx hb dX5_sign_53 rfl (lv_at hl 0 rfl) ?_
            refine lv_aload_n hx hb dX5_sign_54 rfl (lv_at hl 1 rfl) ?_
            have hxz_37 : -2147483648 ≤ z 13 ∧ z 13 < 2147483648 := hok.2.2.2.1 13
            have hxb_38 : z 13 = 0 ∨ z 13 = 1 := hok.2.2.2.2 13 (by decide)
            refine va_get (D := (dC, dI)) (ci := 5) (v := .int (iz (z 13))) (C := RX5) (T := TX5) (N := 16) hx hb hts kt_X5 hown hK hP 0 rfl rfl 3 (by decide) (kx_word hG kq_18_xrows_31 rfl) (fun _ h9 => h9) rfl dX5_sign_55 ?_
            refine lv_aload_n hx hb dX5_sign_58 rfl (lv_at hl 1 rfl) ?_
            have hxz_39 : -2147483648 ≤ z 14 ∧ z 14 < 2147483648 := hok.2.2.2.1 14
            have hxb_40 : z 14 = 0 ∨ z 14 = 1 := hok.2.2.2.2 14 (by decide)
            refine va_get (D := (dC, dI)) (ci := 5) (v := .int (iz (z 14))) (C := RX5) (T := TX5) (N := 16) hx hb hts kt_X5 hown hK hP 0 rfl rfl 4 (by decide) (kx_word hG kq_18_xrows_32 rfl) (fun _ h9 => h9) rfl dX5_sign_59 ?_
            have he_41 : 0 ≤ Ez ((p0 + 1).toNat) 1 ∧ Ez ((p0 + 1).toNat) 1 ≤ ((En ((p0 + 1).toNat) 1 : Nat) : Int) ∧ ((En ((p0 + 1).toNat) 1 : Nat) : Int) ≤ 20 := (hPE ((p0 + 1).toNat) hj19).1 1 (by decide)
            have hPc := hP.sub (ws' := (eU cI (Eo ((p0 + 1).toNat)) (va_up (va_up (Er ((p0 + 1).toNat)) 0 r0_28) 1 r1_32) (va_up (va_up (En ((p0 + 1).toNat)) 0 n0_29) 1 n1_33) (va_up (va_up (Ez ((p0 + 1).toNat)) 0 z0_30) 1 z1_34) (va_up (va_up (EF ((p0 + 1).toNat)) 0 F0_31) 1 F1_35))) [29, 30, 31, 32, 33, 34, 35, 36, 37, 38, 39, 40, 41, 42, 43, 44] rfl
            have hDc := hD.sub (ws' := (eU cI (Eo ((p0 + 1).toNat)) (va_up (va_up (Er ((p0 + 1).toNat)) 0 r0_28) 1 r1_32) (va_up (va_up (En ((p0 + 1).toNat)) 0 n0_29) 1 n1_33) (va_up (va_up (Ez ((p0 + 1).toNat)) 0 z0_30) 1 z1_34) (va_up (va_up (EF ((p0 + 1).toNat)) 0 F0_31) 1 F1_35))) [29, 30, 31, 32, 33, 34, 35, 36, 37, 38, 39, 40, 41, 42, 43, 44] (by decide) rfl
            have hFc := va_free (wc := (eU cI (Eo ((p0 + 1).toNat)) (va_up (va_up (Er ((p0 + 1).toNat)) 0 r0_28) 1 r1_32) (va_up (va_up (En ((p0 + 1).toNat)) 0 n0_29) 1 n1_33) (va_up (va_up (Ez ((p0 + 1).toNat)) 0 z0_30) 1 z1_34) (va_up (va_up (EF ((p0 + 1).toNat)) 0 F0_31) 1 F1_35))) hD hS hA [29, 30, 31, 32, 33, 34, 35, 36, 37, 38, 39, 40, 41, 42, 43, 44] rfl
            refine xk_call (va_runV (As := [.int (iz (z 13)), .int (iz (z 14))]) (rest := []) ⟨hx, hb, hml, hown, hts⟩ (x_makeKey l dC dI cI cB cE (Eo ((p0 + 1).toNat)) (va_up (va_up (Er ((p0 + 1).toNat)) 0 r0_28) 1 r1_32) (va_up (va_up (En ((p0 + 1).toNat)) 0 n0_29) 1 n1_33) (va_up (va_up (Ez ((p0 + 1).toNat)) 0 z0_30) 1 z1_34) (va_up (va_up (EF ((p0 + 1).toNat)) 0 F0_31) 1 F1_35) (z 13) (z 14) H.size (((hPE ((p0 + 1).toNat) hj19).i 0 (by decide) (show 0 ≤ z0_30 ∧ z0_30 ≤ ((n0_29 : Nat) : Int) ∧ ((n0_29 : Nat) : Int) ≤ 20 by omega) hb036 (by omega)).i 1 (by decide) (show 0 ≤ z1_34 ∧ z1_34 ≤ ((n1_33 : Nat) : Int) ∧ ((n1_33 : Nat) : Int) ≤ 20 by omega) hb136 (by omega)) (by omega) (by omega) (by omega) (by omega)) (cwV 2 hts (kx_gV kq_18_xrows_33 kq_18_xrows_34 kq_18_xrows_35 kq_16_xentry_2 kq_18_xrows_36 rfl) rfl rfl rfl (by decide +kernel) ⟨Nat.le_of_ble_eq_true rfl, Nat.le_of_ble_eq_true rfl⟩) ⟨kx_blind, va_recv hK hPc (ci := 0) (q0 := 0) rfl rfl, kx_give (ws := []) (tys := []) hPc hDc hK hG hZ hS hFc⟩ rfl rfl hl.1 rfl (lv_room (Nat.le_of_ble_eq_true rfl)) dX5_sign_62 ⟨show ((0 + dn_4) + dn_26) + 20 ≤ 200 from (by omega), show ((0 + dm_5) + dm_27) + 3500 ≤ 60000 from (by omega)⟩) hS (fun q _ h => hFc q h) hFc (fun u dn_43 dm_44 t H locs ht hvm hq_42 hB hk1 hS => ?_)
            obtain ⟨r2_45, n2_46, z2_47, F2_48⟩ := u
            obtain ⟨hP1, hK1, hD1⟩ := hB
            rw [ht] at hP1
            obtain ⟨hP, hD⟩ := xj_pool (wr := [(o 15, .inr (5, [.ref (o 16), .ref (Eo 0 0), .int (iz (z 12)), .int (iz (z 13)), .int (iz (z 14)), .ref (o 0), .ref (o 1), .int (iz (z 15)), .ref (o 13), .ref (o 14), .int (iz (z 16)), .ref (o 2), .ref (o 12), .ref (o 3), .ref (o 10), .ref (o 11)])), (o 16, .inl (cE, 80, .inr (.inr (.inr (.inr G))))), (o 0, .inr (1, [.int (iz 80), .ref (r 0), .int (iz (z 0))])), (r 0, .inl (cI, n 0, .inl (iA (F 0)))), (o 1, .inr (1, [.int (iz 80), .ref (r 1), .int (iz (z 1))])), (r 1, .inl (cI, n 1, .inl (iA (F 1)))), (o 2, .inr (1, [.int (iz 80), .ref (r 2), .int (iz (z 2))])), (r 2, .inl (cI, n 2, .inl (iA (F 2)))), (o 3, .inr (1, [.int (iz 80), .ref (r 3), .int (iz (z 3))])), (r 3, .inl (cI, n 3, .inl (iA (F 3)))), (o 13, .inr (3, [.ref (o 4), .ref (o 5), .ref (o 6)])), (o 4, .inr (1, [.int (iz 1600), .ref (r 4), .int (iz (z 4))])), (r 4, .inl (cI, n 4, .inl (iA (F 4)))), (o 5, .inr (1, [.int (iz 1600), .ref (r 5), .int (iz (z 5))])), (r 5, .inl (cI, n 5, .inl (iA (F 5)))), (o 6, .inr (1, [.int (iz 1600), .ref (r 6), .int (iz (z 6))])), (r 6, .inl (cI, n 6, .inl (iA (F 6)))), (o 14, .inr (3, [.ref (o 7), .ref (o 8), .ref (o 9)])), (o 7, .inr (1, [.int (iz 1600), .ref (r 7), .int (iz (z 7))])), (r 7, .inl (cI, n 7, .inl (iA (F 7)))), (o 8, .inr (1, [.int (iz 1600), .ref (r 8), .int (iz (z 8))])), (r 8, .inl (cI, n 8, .inl (iA (F 8)))), (o 9, .inr (1, [.int (iz 1600), .ref (r 9), .int (iz (z 9))])), (r 9, .inl (cI, n 9, .inl (iA (F 9)))), (o 12, .inr (4, [.int (iz (z 17)), .int (iz (z 18)), .int (iz (z 19)), .int (iz (z 20)), .int (iz (z 21))])), (o 10, .inr (2, [.ref (r 10), .int (iz (z 10)), .int (iz (z 22))])), (r 10, .inl (cB, n 10, .inl (iA (F 10)))), (o 11, .inr (2, [.ref (r 11), .int (iz (z 11)), .int (iz (z 23))])), (r 11, .inl (cB, n 11, .inl (iA (F 11))))]) (w1 := (eU cI (Eo ((p0 + 1).toNat)) (va_up (va_up (va_up (Er ((p0 + 1).toNat)) 0 r0_28) 1 r1_32) 2 r2_45) (va_up (va_up (va_up (En ((p0 + 1).toNat)) 0 n0_29) 1 n1_33) 2 n2_46) (va_up (va_up (va_up (Ez ((p0 + 1).toNat)) 0 z0_30) 1 z1_34) 2 z2_47) (va_up (va_up (va_up (EF ((p0 + 1).toNat)) 0 F0_31) 1 F1_35) 2 F2_48))) (ws' := ((xU cI cB cE o r n z F G (Eo 0 0)) ++ (eU cI (Eo ((p0 + 1).toNat)) (va_up (va_up (va_up (Er ((p0 + 1).toNat)) 0 r0_28) 1 r1_32) 2 r2_45) (va_up (va_up (va_up (En ((p0 + 1).toNat)) 0 n0_29) 1 n1_33) 2 n2_46) (va_up (va_up (va_up (Ez ((p0 + 1).toNat)) 0 z0_30) 1 z1_34) 2 z2_47) (va_up (va_up (va_up (EF ((p0 + 1).toNat)) 0 F0_31) 1 F1_35) 2 F2_48)))) hP hD [29, 30, 31, 32, 33, 34, 35, 36, 37, 38, 39, 40, 41, 42, 43, 44] [0, 1, 2, 3, 4, 5, 6, 7, 8, 9, 10, 11, 12, 13, 14, 15, 16, 17, 18, 19, 20, 21, 22, 23, 24, 25, 26, 27, 28] [0, 1, 2, 3, 4, 5, 6, 7, 8, 9, 10, 11, 12, 13, 14, 15, 16, 17, 18, 19, 20, 21, 22, 23, 24, 25, 26, 27, 28, 29, 30, 31, 32, 33, 34, 35, 36, 37, 38, 39, 40, 41, 42, 43, 44] rfl rfl (by decide) (by decide) hk1 hFc hP1 hD1 rfl (by decide)
            refine W.eq (g2 := F0 m 65 ls []) rfl ?_
            try dsimp only at hq_42
            try simp (decide := true) only [va_ev, ↓reduceIte] at hq_42
            obtain ⟨⟨ha49, hb49⟩, hc49⟩ := hq_42
            have hpg49 := psg_le 40 (En ((p0 + 1).toNat) 2)
            have hpj49 := psj_le (L := 40) (by omega) (En ((p0 + 1).toNat) 2)
            refine lv_aload_n hx hb dX5_sign_65 rfl (lv_at hl 1 rfl) ?_
            have he_50 : 0 ≤ Ez ((p0 + 1).toNat) 2 ∧ Ez ((p0 + 1).toNat) 2 ≤ ((En ((p0 + 1).toNat) 2 : Nat) : Int) ∧ ((En ((p0 + 1).toNat) 2 : Nat) : Int) ≤ 40 := (hPE ((p0 + 1).toNat) hj19).1 2 (by decide)
            have hP : va_P (dC, dI) kxCl (((xU cI cB cE o r n z F G (Eo 0 0)) ++ (eU cI (Eo ((p0 + 1).toNat)) (va_up (va_up (va_up (Er ((p0 + 1).toNat)) 0 r0_28) 1 r1_32) 2 r2_45) (va_up (va_up (va_up (En ((p0 + 1).toNat)) 0 n0_29) 1 n1_33) 2 n2_46) (va_up (va_up (va_up (Ez ((p0 + 1).toNat)) 0 z0_30) 1 z1_34) 2 z2_47) (va_up (va_up (va_up (EF ((p0 + 1).toNat)) 0 F0_31) 1 F1_35) 2 F2_48))) ++ (eR cI N ((p0 + 1).toNat) Eo Er En Ez EF)) H := hP
            have hD : va_D A (((xU cI cB cE o r n z F G (Eo 0 0)) ++ (eU cI (Eo ((p0 + 1).toNat)) (va_up (va_up (va_up (Er ((p0 + 1).toNat)) 0 r0_28) 1 r1_32) 2 r2_45) (va_up (va_up (va_up (En ((p0 + 1).toNat)) 0 n0_29) 1 n1_33) 2 n2_46) (va_up (va_up (va_up (Ez ((p0 + 1).toNat)) 0 z0_30) 1 z1_34) 2 z2_47) (va_up (va_up (va_up (EF ((p0 + 1).toNat)) 0 F0_31) 1 F1_35) 2 F2_48))) ++ (eR cI N ((p0 + 1).toNat) Eo Er En Ez EF)) := hD
            have hP := eP_unf hj19 hP
            have hD := eD_unf hj19 hD
            have hPE51 := hPE.up ((p0 + 1).toNat) ((((hPE ((p0 + 1).toNat) hj19).i 0 (by decide) (show 0 ≤ z0_30 ∧ z0_30 ≤ ((n0_29 : Nat) : Int) ∧ ((n0_29 : Nat) : Int) ≤ 20 by omega) hb036 (by omega)).i 1 (by decide) (show 0 ≤ z1_34 ∧ z1_34 ≤ ((n1_33 : Nat) : Int) ∧ ((n1_33 : Nat) : Int) ≤ 20 by omega) hb136 (by omega)).i 2 (by decide) (show 0 ≤ z2_47 ∧ z2_47 ≤ ((n2_46 : Nat) : Int) ∧ ((n2_46 : Nat) : Int) ≤ 40 by omega) hb49 (by omega))
            have hef51 := hef.up ((p0 + 1).toNat) (z := (va_up (va_up (va_up (Ez ((p0 + 1).toNat)) 0 z0_30) 1 z1_34) 2 z2_47)) (n := (va_up (va_up (va_up (En ((p0 + 1).toNat)) 0 n0_29) 1 n1_33) 2 n2_46)) (F := (va_up (va_up (va_up (EF ((p0 + 1).toNat)) 0 F0_31) 1 F1_35) 2 F2_48)) (fun k hk => (vfr hk _ (by decide) (vfr hk _ (by decide) (vfr hk _ (by decide) rfl)))) (fun k hk => ⟨(vfr hk _ (by decide) (vfr hk _ (by decide) (vfr hk _ (by decide) rfl))), (vfr hk _ (by decide) (vfr hk _ (by decide) (vfr hk _ (by decide) rfl)))⟩)
            generalize eEr51 : va_up Er ((p0 + 1).toNat) (va_up (va_up (va_up (Er ((p0 + 1).toNat)) 0 r0_28) 1 r1_32) 2 r2_45) = Er51 at hP hD
            generalize eEn51 : va_up En ((p0 + 1).toNat) (va_up (va_up (va_up (En ((p0 + 1).toNat)) 0 n0_29) 1 n1_33) 2 n2_46) = En51 at hP hD hPE51 hef51
            generalize eEz51 : va_up Ez ((p0 + 1).toNat) (va_up (va_up (va_up (Ez ((p0 + 1).toNat)) 0 z0_30) 1 z1_34) 2 z2_47) = Ez51 at hP hD hPE51 hef51
            generalize eEF51 : va_up EF ((p0 + 1).toNat) (va_up (va_up (va_up (EF ((p0 + 1).toNat)) 0 F0_31) 1 F1_35) 2 F2_48) = EF51 at hP hD hPE51 hef51
            have hcl51_0 : Ez51 ((p0 + 1).toNat) 0 = z0_30 := by rw [← eEz51]; simp (decide := true) only [va_ev, ↓reduceIte]
            have hcl51_4 : Ez51 ((p0 + 1).toNat) 4 = Ez ((p0 + 1).toNat) 4 := by rw [← eEz51]; simp (decide := true) only [va_ev, ↓reduceIte]
            have hcl51_7 : Ez51 ((p0 + 1).toNat) 7 = Ez ((p0 + 1).toNat) 7 := by rw [← eEz51]; simp (decide := true) only [va_ev, ↓reduceIte]
            have hcl51_9 : Ez51 ((p0 + 1).toNat) 9 = Ez ((p0 + 1).toNat) 9 := by rw [← eEz51]; simp (decide := true) only [va_ev, ↓reduceIte]
            have hcF51_4 : EF51 ((p0 + 1).toNat) 4 = EF ((p0 + 1).toNat) 4 := by rw [← eEF51]; simp (decide := true) only [va_ev, ↓reduceIte]
            have hxG9 : xG N (z 12) G Eo := ⟨by omega, by omega, by omega, fun e9 h9 => hN4 e9 (by omega)⟩
            have hP : va_P (dC, dI) kxCl (xU cI cB cE o r n z F G (Eo 0 0) ++ eP cI N Eo Er51 En51 Ez51 EF51) H := hP
            have hD : va_D A (xU cI cB cE o r n z F G (Eo 0 0) ++ eP cI N Eo Er51 En51 Ez51 EF51) := hD
            have hFc := xw_free hD hS hA
            refine xk_call (va_runV (As := []) (rest := []) ⟨hx, hb, hml, hown, hts⟩ (y_forgetRows l dC dI cI cB cE o r n z F G N Eo Er51 En51 Ez51 EF51  H.size hok hxG9 hPE51 ) (cwV 0 hts (kx_gV kq_21_xcalls_6 kq_21_xcalls_7 kq_21_xcalls_8 kq_18_xrows_4 kq_21_xcalls_9 rfl) rfl rfl rfl (by decide +kernel) ⟨Nat.le_of_ble_eq_true rfl, Nat.le_of_ble_eq_true rfl⟩) ⟨kx_blind, va_recv hK hP (ci := 5) (q0 := 0) rfl rfl, kx_give (ws := []) (tys := []) hP hD hK hG hZ hS hFc⟩ rfl rfl hl.1 rfl (lv_room (Nat.le_of_ble_eq_true rfl)) dX5_sign_66 ⟨show (((0 + dn_4) + dn_26) + dn_43) + 0 ≤ 200 from (by omega), show (((0 + dm_5) + dm_27) + dm_44) + 0 ≤ 60000 from (by omega)⟩) hS (fun q _ h => hFc q h) hFc (fun u dn_54 dm_55 t H locs ht hvm hq_52 hB hk1 hS => ?_)
            obtain ⟨r_56, n_57, z_58, F_59, Er_60, En_61, Ez_62, EF_63⟩ := u
            obtain ⟨hP, hK1, hD1⟩ := hB
            rw [ht] at hP
            have hD := hD1.weaken (fun _ q _ h => hFc _ h)
            obtain ⟨hR64, hC64, hq_52⟩ := hq_52
            obtain ⟨rfl, rfl, rfl, rfl, rfl, rfl, rfl, hq_52⟩ := hq_52
            subst hq_52
            have hP : va_P (dC, dI) kxCl ((xU cI cB cE o r n (va_up (va_up z 15 0) 16 (-1)) F G (Eo 0 0)) ++ (eP cI N Eo Er51 En51 Ez51 EF51)) H := hP
            have hD : va_D A ((xU cI cB cE o r n (va_up (va_up z 15 0) 16 (-1)) F G (Eo 0 0)) ++ (eP cI N Eo Er51 En51 Ez51 EF51)) := hD
            refine W.eq (g2 := F0 m 69 ls []) rfl ?_
            refine lv_aload_n hx hb dX5_sign_69 rfl (lv_at hl 0 rfl) ?_
            have hP := eP_foc hj19 hP
            have hD := eD_foc hj19 hD
            refine va_getN (D := (dC, dI)) (ci := 0) (v := .ref (Eo ((p0 + 1).toNat) 1)) (C := RX0) (T := TX0) (N := 12) hx hb hts kt_X0 hown hK hP 29 rfl rfl 2 (by decide) (va_Nw.use rfl (kx_nf hG kq_19_xouts_70)) (fun _ h9 => h9) rfl dX5_sign_70 ?_
            have he_65 : 0 ≤ Ez51 ((p0 + 1).toNat) 0 ∧ Ez51 ((p0 + 1).toNat) 0 ≤ ((En51 ((p0 + 1).toNat) 0 : Nat) : Int) ∧ ((En51 ((p0 + 1).toNat) 0 : Nat) : Int) ≤ 20 := (hPE51 ((p0 + 1).toNat) hj19).1 0 (by decide)
            have hPc := hP.sub (ws' := (iU cI 20 (Eo ((p0 + 1).toNat) 1) (Er51 ((p0 + 1).toNat) 0) (En51 ((p0 + 1).toNat) 0) (Ez51 ((p0 + 1).toNat) 0) (EF51 ((p0 + 1).toNat) 0))) [30, 31] rfl
            refine xk_pure (va_runV (As := []) (rest := []) ⟨hx, hb, hml, hown, hts⟩ (x_size l dC dI cI cB cE 20 (Eo ((p0 + 1).toNat) 1) (Er51 ((p0 + 1).toNat) 0) (En51 ((p0 + 1).toNat) 0) (Ez51 ((p0 + 1).toNat) 0) (EF51 ((p0 + 1).toNat) 0)  H.size ) (cwV 0 hts (kx_gV kq_18_xrows_40 kq_15_xspan_10 kq_15_xspan_11 kq_13_xints_6 kq_15_xspan_12 rfl) rfl rfl rfl (by decide +kernel) ⟨Nat.le_of_ble_eq_true rfl, Nat.le_of_ble_eq_true rfl⟩) ⟨pPre_blind, va_recv hK hPc (ci := 1) (q0 := 0) rfl rfl, pPre_give hPc hK hG⟩ rfl rfl hl.1 rfl (lv_room (Nat.le_of_ble_eq_true rfl)) dX5_sign_73 ⟨show ((((0 + dn_4) + dn_26) + dn_43) + dn_54) + 0 ≤ 200 from (by omega), show ((((0 + dm_5) + dm_27) + dm_44) + dm_55) + 0 ≤ 60000 from (by omega)⟩) hS (fun z_67 locs hq_66 hS => ?_)
            refine W.eq (g2 := F0 m 76 ls [.int (iz z_67)]) rfl ?_
            try dsimp only at hq_66
            have hq_66 := hq_66.symm
            subst hq_66
            have hP := eP_un0 hj19 hP
            have hD := eD_un0 hj19 hD
            have hxz_68 : -2147483648 ≤ z 15 ∧ z 15 < 2147483648 := hok.2.2.2.1 15
            have hxb_69 : z 15 = 0 ∨ z 15 = 1 := hok.2.2.2.2 15 (by decide)
            have hxz_70 : -2147483648 ≤ z 16 ∧ z 16 < 2147483648 := hok.2.2.2.1 16
            have hok71 : xOk n (va_up (va_up z 15 0) 16 (-1)) F := ((hok.s 15 (by decide) (show -2147483648 ≤ 0 ∧ 0 < 2147483648 by omega) (by omega)).s 16 (by decide) (show -2147483648 ≤ (-1) ∧ (-1) < 2147483648 by omega) (by omega))
            have hfr71 : xFr [15, 16] [] z F (va_up (va_up z 15 0) 16 (-1)) F := ((hfr.uz 15 (by decide) _).uz 16 (by decide) _)
            refine vx_ret ?_
            exact xk_iret (ov := (fun u : (Int) × (Nat → Nat) × (Nat → Nat) × (Nat → Int) × (Nat → Int → Int) × (Nat → Nat → Nat) × (Nat → Nat → Nat) × (Nat → Nat → Int) × (Nat → Nat → Int → Int) => match u with | (q, r', n', z', F', Er', En', Ez', EF') => some (.int (iz q)))) (post := (fun (u : (Int) × (Nat → Nat) × (Nat → Nat) × (Nat → Int) × (Nat → Int → Int) × (Nat → Nat → Nat) × (Nat → Nat → Nat) × (Nat → Nat → Int) × (Nat → Nat → Int → Int)) (dn dm : Nat) => match u with | (q, r', n', z', F', Er', En', Ez', EF') => xR [15, 16] [] [0, 1, 2] [0, 1, 2] N z F En Ez EF n' z' F' En' Ez' EF' ∧ (dn + xg n' ≤ xg n + 50 ∧ dm + xp n' ≤ xp n + 400) ∧ ((0 ≤ p0 ∧ p0 < z 12) ∧ (0 ≤ p1 ∧ p1 ≤ 255) ∧ Ez ((p0 + 1).toNat) 0 < 20 ∧ q = Ez ((p0 + 1).toNat) 0 + 1 ∧ Ez' ((p0 + 1).toNat) 0 = Ez ((p0 + 1).toNat) 0 + 1 ∧ (∀ j, j ≠ ((p0 + 1).toNat) → Ez' j = Ez j ∧ EF' j = EF j)))) (ws := (fun u : (Int) × (Nat → Nat) × (Nat → Nat) × (Nat → Int) × (Nat → Int → Int) × (Nat → Nat → Nat) × (Nat → Nat → Nat) × (Nat → Nat → Int) × (Nat → Nat → Int → Int) => match u with | (q, r', n', z', F', Er', En', Ez', EF') => (xU cI cB cE o r' n' z' F' G (Eo 0 0) ++ eP cI N Eo Er' En' Ez' EF'))) (tys := xT cI cB cE) (z := Ez51 ((p0 + 1).toNat) 0) (Ez51 ((p0 + 1).toNat) 0, r, n, (va_up (va_up z 15 0) 16 (-1)), F, Er51, En51, Ez51, EF51) hx hb hr rfl hlocks rfl hP hD hK hS dX5_sign_76 (fun dn dm hdn hdm => ⟨⟨hok71, hfr71, hPE51, hef51⟩, ⟨by omega, by omega⟩, ⟨by omega, by omega, by omega, by omega, by omega, fun j hj => ⟨by rw [← eEz51]; exact va_up_ne _ _ hj, by rw [← eEF51]; exact va_up_ne _ _ hj⟩⟩⟩) (by omega) (by omega)
          · omega
      · skip
        exact ky_thr_IAE hx hb hlf hown hG hZ hS (hl.1.trans hml.symm) dX5_sign_16 dX5_sign_19 dX5_sign_20 dX5_sign_23 htab (Nat.le_of_ble_eq_true rfl) (Nat.le_of_ble_eq_true rfl) (show (0 + dn_4) + 1 ≤ 200 from (by omega)) (show (0 + dm_5) + 6 ≤ 60000 from (by omega)) hlocks (Or.inr (Or.inl ⟨rfl, by first | trivial | omega⟩)) (fun t hvm h1 h2 => ⟨(r, n, z, F, Er, En, Ez, EF), ⟨hok, xFr.rf, hPE, eFr.rf⟩, hP.kept (fun k q hk => h2 q.1 (hP k q hk).lt), va_K.moved hvm hK, hD⟩) hS.2.2 (by omega) (by omega) (by omega) (by omega)
set_option maxHeartbeats 4000000 in
set_option maxRecDepth 100000 in
theorem y_page (l : Launch) (hlf : l.stackTraces = false) (dC : Nat → ClassId) (dI : Nat → Nat → Nat) (cI cB cE : ClassId) (o r n : Nat → Nat) (z : Nat → Int) (F : Nat → Int → Int) (G : Nat → Option Nat) (N : Nat) (Eo Er En : Nat → Nat → Nat) (Ez : Nat → Nat → Int) (EF : Nat → Nat → Int → Int) (p0 : Int) (p1 : Int) (p2 : Int) (sz : Nat) (hok : xOk n z F) (hxG : xG N (z 12) G Eo) (hPE : eA N En Ez EF) (hp01 : -2147483648 ≤ p0) (hp02 : p0 < 2147483648) (hp11 : -2147483648 ≤ p1) (hp12 : p1 < 2147483648) (hp21 : -2147483648 ≤ p2) (hp22 : p2 < 2147483648) : vx_Met l yX5_page [.code yX5_page cX5_page 6 (some .int)] ({ frames := 8, cells := 200, slots := 60000, locals := 126 }) (va_Pc [.ref (o 15), .int (iz p0), .int (iz p1), .int (iz p2)] (kx_Pre dC dI (xU cI cB cE o r n z F G (Eo 0 0) ++ eP cI N Eo Er En Ez EF) (xT cI cB cE) sz)) (xQ (fun u : (Int) × (Nat → Nat) × (Nat → Nat) × (Nat → Int) × (Nat → Int → Int) × (Nat → Nat → Nat) × (Nat → Nat → Nat) × (Nat → Nat → Int) × (Nat → Nat → Int → Int) => match u with | (q, r', n', z', F', Er', En', Ez', EF') => some (.int (iz q))) (fun (u : (Int) × (Nat → Nat) × (Nat → Nat) × (Nat → Int) × (Nat → Int → Int) × (Nat → Nat → Nat) × (Nat → Nat → Nat) × (Nat → Nat → Int) × (Nat → Nat → Int → Int)) (dn dm : Nat) => match u with | (q, r', n', z', F', Er', En', Ez', EF') => xR [16] [] [4, 5, 6] [4, 5, 6] N z F En Ez EF n' z' F' En' Ez' EF' ∧ (dn + xg n' ≤ xg n + 30 ∧ dm + xp n' ≤ xp n + 200) ∧ ((0 ≤ p0 ∧ p0 < z 12) ∧ (1 ≤ p2 ∧ ((p1 = 0 ∧ p2 ≤ 3999) ∨ (p1 = 1 ∧ p2 ≤ 99999) ∨ (p1 = 2 ∧ p2 ≤ 702))) ∧ Ez ((p0 + 1).toNat) 4 < 20 ∧ q = Ez ((p0 + 1).toNat) 4 + 1 ∧ Ez' ((p0 + 1).toNat) 4 = Ez ((p0 + 1).toNat) 4 + 1 ∧ (∀ i, 0 ≤ i → i < Ez ((p0 + 1).toNat) 4 → EF' ((p0 + 1).toNat) 4 i = EF ((p0 + 1).toNat) 4 i) ∧ (∀ j, j ≠ ((p0 + 1).toNat) → Ez' j = Ez j ∧ EF' j = EF j))) (fun u t => kx_At dC dI (va_A (xU cI cB cE o r n z F G (Eo 0 0) ++ eP cI N Eo Er En Ez EF) sz) ((fun u : (Int) × (Nat → Nat) × (Nat → Nat) × (Nat → Int) × (Nat → Int → Int) × (Nat → Nat → Nat) × (Nat → Nat → Nat) × (Nat → Nat → Int) × (Nat → Nat → Int → Int) => match u with | (q, r', n', z', F', Er', En', Ez', EF') => (xU cI cB cE o r' n' z' F' G (Eo 0 0) ++ eP cI N Eo Er' En' Ez' EF')) u) (xT cI cB cE) t) (va_A (xU cI cB cE o r n z F G (Eo 0 0) ++ eP cI N Eo Er En Ez EF) sz)) (yX (fun E => (E = "java/util/NoSuchElementException" ∧ (¬ (0 ≤ p0 ∧ p0 < z 12))) ∨ (E = "java/lang/IllegalArgumentException" ∧ ((0 ≤ p0 ∧ p0 < z 12) ∧ ¬ (1 ≤ p2 ∧ ((p1 = 0 ∧ p2 ≤ 3999) ∨ (p1 = 1 ∧ p2 ≤ 99999) ∨ (p1 = 2 ∧ p2 ≤ 702))))) ∨ (E = "java/lang/UnsupportedOperationException" ∧ ((0 ≤ p0 ∧ p0 < z 12) ∧ (1 ≤ p2 ∧ ((p1 = 0 ∧ p2 ≤ 3999) ∨ (p1 = 1 ∧ p2 ≤ 99999) ∨ (p1 = 2 ∧ p2 ≤ 702))) ∧ 20 ≤ Ez ((p0 + 1).toNat) 4))) 2 12 (fun t => ∃ u : (Nat → Nat) × (Nat → Nat) × (Nat → Int) × (Nat → Int → Int) × (Nat → Nat → Nat) × (Nat → Nat → Nat) × (Nat → Nat → Int) × (Nat → Nat → Int → Int), match u with | (r', n', z', F', Er', En', Ez', EF') => xR [] [] [] [] N z F En Ez EF n' z' F' En' Ez' EF' ∧ kx_At dC dI (va_A (xU cI cB cE o r n z F G (Eo 0 0) ++ eP cI N Eo Er En Ez EF) sz) (xU cI cB cE o r' n' z' F' G (Eo 0 0) ++ eP cI N Eo Er' En' Ez' EF') (xT cI cB cE) t) (va_A (xU cI cB cE o r n z F G (Eo 0 0) ++ eP cI N Eo Er En Ez EF) sz)) 200 60000 (va_A (xU cI cB cE o r n z F G (Eo 0 0) ++ eP cI N Eo Er En Ez EF) sz) := by
  refine vx_ofW (cc := cX5_page) (maxL := 6) (ret := (some .int)) (by decide) rfl ?_
  intro p e s m args below meth c s₁ B hml htab hv
  obtain ⟨rfl, hsz, hP, hK, hD0, hG, hZ⟩ := hv
  have hx := B.exec
  have hb := B.bytes
  have hr := B.returns
  have hts := kx_hts (a := ([.ref (o 15), .int (iz p0), .int (iz p1), .int (iz p2)] : List Value).toArray) hG
  have hown : s.vm.findClass RX5 = some m.cls := findClass_of_methodNamed B.named
  have hlocks := B.notSynchronized
  subst hsz
  have hD := hD0.self (sz := s.heap.size)
  generalize hAe : va_A (xU cI cB cE o r n z F G (Eo 0 0) ++ eP cI N Eo Er En Ez EF) s.heap.size = A at hD hZ ⊢
  have hA : ∀ q : Nat, s.heap.size ≤ q → A q := fun q h => by rw [← hAe]; exact Or.inr h
  have hS : va_S A s.heap s.heap [] := va_S.rf
  have hl := lv_entry ([.ref (o 15), .int (iz p0), .int (iz p1), .int (iz p2)]) (n := 6) (Nat.le_of_ble_eq_true rfl)
  rw [lg_entry_eq]
  generalize (lg_sl ([.ref (o 15), .int (iz p0), .int (iz p1), .int (iz p2)]) ++ List.replicate (6 - (lg_sl ([.ref (o 15), .int (iz p0), .int (iz p1), .int (iz p2)])).length) Slot.unset).toArray = ls at hl ⊢
  obtain ⟨hN1, hN2, hN3, hN4⟩ := hxG
  have hef : eFr [4, 5, 6] [4, 5, 6] En Ez EF En Ez EF := eFr.rf
  have hfr : xFr [16] [] z F z F := xFr.rf
  have hxgl := xg_le n
  have hxpl := xp_le n
  have hl : lv_has ls 6 [(0, .ref (o 15)), (1, .int (iz p0)), (2, .int (iz p1)), (3, .int (iz p2))] := hl
  refine lv_aload_n hx hb dX5_page_0 rfl (lv_at hl 0 rfl) ?_
  refine lv_iload_n hx hb dX5_page_1 rfl (lv_at hl 1 rfl) ?_
  have hxz_1 : -2147483648 ≤ z 12 ∧ z 12 < 2147483648 := hok.2.2.2.1 12
  have hxG9 : xG N (z 12) G Eo := ⟨by omega, by omega, by omega, fun e9 h9 => hN4 e9 (by omega)⟩
  have hP : va_P (dC, dI) kxCl (xU cI cB cE o r n z F G (Eo 0 0) ++ eP cI N Eo Er En Ez EF) s.heap := hP
  have hD : va_D A (xU cI cB cE o r n z F G (Eo 0 0) ++ eP cI N Eo Er En Ez EF) := hD
  have hFc := xw_free hD hS hA
  refine yk_call (vx_runV (As := [.int (iz p0)]) (rest := []) ⟨hx, hb, hml, hown, hts⟩ (y_needEntry l hlf dC dI cI cB cE o r n z F G N Eo Er En Ez EF p0 s.heap.size hok hxG9 hPE (by omega) (by omega)) (cwV 1 hts (kx_gV kq_21_xcalls_10 kq_21_xcalls_11 kq_21_xcalls_12 kq_18_xrows_4 kq_21_xcalls_13 rfl) rfl rfl rfl (by decide +kernel) ⟨Nat.le_of_ble_eq_true rfl, Nat.le_of_ble_eq_true rfl⟩) ⟨kx_blind, va_recv hK hP (ci := 5) (q0 := 0) rfl rfl, kx_give (ws := []) (tys := []) hP hD hK hG hZ hS hFc⟩ rfl rfl hl.1 rfl (lv_room (Nat.le_of_ble_eq_true rfl)) dX5_page_2 ⟨show 0 + 1 ≤ 200 from (by omega), show 0 + 6 ≤ 60000 from (by omega)⟩) hS (fun q _ h => hFc q h) hFc (fun E ce q9 t H1 locs ht hvm hEx hBx hk1 hS hcell hcv hcl => ?_) (fun u dn_4 dm_5 t H locs ht hvm hq_2 hB hk1 hS => ?_)
  · skip
    exact ky_out (fun x hx => (htab x hx).elim) hlocks hcell hcv hcl (by obtain ⟨rfl, h9⟩ := hEx; exact Or.inl ⟨rfl, by first | trivial | omega⟩) (fun t9 ht9 hvm9 => by obtain ⟨⟨r8, n8, z8, F8, Er8, En8, Ez8, EF8⟩, hR8, hP8, hK8, hD8⟩ := hBx; exact ⟨(r8, n8, z8, F8, Er8, En8, Ez8, EF8), hR8, (by rw [ht9, ← ht]; exact hP8), va_K.moved hvm9 hK, hD8.weaken (fun _ q _ h => hFc _ h)⟩) hS hS.2.2 (by omega) (by omega) (by omega) (by omega)
  · skip
    obtain ⟨r_6, n_7, z_8, F_9, Er_10, En_11, Ez_12, EF_13⟩ := u
    obtain ⟨hP, hK1, hD1⟩ := hB
    rw [ht] at hP
    have hD := hD1.weaken (fun _ q _ h => hFc _ h)
    obtain ⟨hR14, hC14, hq_2⟩ := hq_2
    obtain ⟨rfl, rfl, rfl, rfl, rfl, rfl, rfl, hq_2⟩ := hq_2
    obtain ⟨rfl, hq_2⟩ := hq_2
    refine W.eq (g2 := F0 m 5 ls []) rfl ?_
    refine lv_iload_n hx hb dX5_page_5 rfl (lv_at hl 3 rfl) ?_
    refine lv_iconst (v := iz 1) hx hb dX5_page_6 (by decide) ?_
    refine ki_icmp_lt (tgt := 18) hx hb dX5_page_7 (by decide) (by omega) (by omega) (by omega) (by omega) (fun c_15 => ?_) (fun c_15 => ?_)
    · skip
      exact ky_thr_IAE hx hb hlf hown hG hZ hS (hl.1.trans hml.symm) dX5_page_18 dX5_page_21 dX5_page_22 dX5_page_25 htab (Nat.le_of_ble_eq_true rfl) (Nat.le_of_ble_eq_true rfl) (show (0 + dn_4) + 1 ≤ 200 from (by omega)) (show (0 + dm_5) + 6 ≤ 60000 from (by omega)) hlocks (Or.inr (Or.inl ⟨rfl, by first | trivial | omega⟩)) (fun t hvm h1 h2 => ⟨(r, n, z, F, Er, En, Ez, EF), ⟨hok, xFr.rf, hPE, eFr.rf⟩, hP.kept (fun k q hk => h2 q.1 (hP k q hk).lt), va_K.moved hvm hK, hD⟩) hS.2.2 (by omega) (by omega) (by omega) (by omega)
    · skip
      refine lv_iload_n hx hb dX5_page_10 rfl (lv_at hl 3 rfl) ?_
      refine lv_iload_n hx hb dX5_page_11 rfl (lv_at hl 2 rfl) ?_
      have hPc : va_P (dC, dI) kxCl [] H := fun k q h => by simp at h
      refine xk_pure (va_runS (As := [.int (iz p1)]) (rest := [.int (iz p2)]) ⟨hx, hb, hml, hown, hts⟩ (x_lastOf l dC dI cI cB cE p1 H.size (by omega) (by omega)) (va_cwS 1 hts (kx_gS kq_21_xcalls_18 kq_21_xcalls_19 kq_18_xrows_4 kq_21_xcalls_20 rfl) rfl rfl rfl (by decide +kernel) ⟨Nat.le_of_ble_eq_true rfl, Nat.le_of_ble_eq_true rfl⟩) ⟨pPre_blind, pPre_give hPc hK hG⟩ rfl rfl hl.1 rfl (lv_room (Nat.le_of_ble_eq_true rfl)) dX5_page_12 ⟨show (0 + dn_4) + 0 ≤ 200 from (by omega), show (0 + dm_5) + 0 ≤ 60000 from (by omega)⟩) hS (fun z_17 locs hq_16 hS => ?_)
      refine W.eq (g2 := F0 m 15 ls [.int (iz z_17), .int (iz p2)]) rfl ?_
      try dsimp only at hq_16
      refine ki_icmp_le (tgt := 26) hx hb dX5_page_15 (by decide) (by omega) (by omega) (by omega) (by omega) (fun c_18 => ?_) (fun c_18 => ?_)
      · skip
        refine lv_aload_n hx hb dX5_page_26 rfl (lv_at hl 0 rfl) ?_
        refine lv_iload_n hx hb dX5_page_27 rfl (lv_at hl 1 rfl) ?_
        have hxG9 : xG N (z 12) G Eo := ⟨by omega, by omega, by omega, fun e9 h9 => hN4 e9 (by omega)⟩
        have hP : va_P (dC, dI) kxCl (xU cI cB cE o r n z F G (Eo 0 0) ++ eP cI N Eo Er En Ez EF) H := hP
        refine xk_pure (va_runV (As := [.int (iz p0)]) (rest := []) ⟨hx, hb, hml, hown, hts⟩ (y_known l dC dI cI cB cE o r n z F G N Eo Er En Ez EF p0 H.size hok hxG9 hPE (by omega) (by omega)) (cwV 1 hts (kx_gV kq_18_xrows_8 kq_18_xrows_9 kq_18_xrows_10 kq_18_xrows_4 kq_18_xrows_11 rfl) rfl rfl rfl (by decide +kernel) ⟨Nat.le_of_ble_eq_true rfl, Nat.le_of_ble_eq_true rfl⟩) ⟨pPre_blind, va_recv hK hP (ci := 5) (q0 := 0) rfl rfl, pPre_give hP hK hG⟩ rfl rfl hl.1 rfl (lv_room (Nat.le_of_ble_eq_true rfl)) dX5_page_28 ⟨show (0 + dn_4) + 0 ≤ 200 from (by omega), show (0 + dm_5) + 0 ≤ 60000 from (by omega)⟩) hS (fun z_20 locs hq_19 hS => ?_)
        refine W.eq (g2 := F0 m 31 ls [.ref z_20.toNat]) rfl ?_
        try dsimp only at hq_19
        obtain ⟨j21, hj21, ez21, hje21⟩ := hq_19
        subst ez21
        refine W.eq (g2 := F0 m 31 ls [.ref (Eo j21 0)]) rfl ?_
        have ej21 : j21 = (p0 + 1).toNat := by omega
        subst ej21
        have hP := eP_foc hj21 hP
        have hD := eD_foc hj21 hD
        refine va_getN (D := (dC, dI)) (ci := 0) (v := .ref (Eo ((p0 + 1).toNat) 5)) (C := RX0) (T := TX0) (N := 12) hx hb hts kt_X0 hown hK hP 29 rfl rfl 5 (by decide) (va_Nw.use rfl (kx_nf hG kq_19_xouts_22)) (fun _ h9 => h9) rfl dX5_page_31 ?_
        refine lv_astore (lv' := [(4, .ref (Eo ((p0 + 1).toNat) 5)), (0, .ref (o 15)), (1, .int (iz p0)), (2, .int (iz p1)), (3, .int (iz p2))]) hx hb dX5_page_34 hl (by decide) rfl (fun ls hl => ?_)
        refine lv_aload hx hb dX5_page_36 (lv_at hl 0 rfl) ?_
        have he_22 : 0 ≤ Ez ((p0 + 1).toNat) 4 ∧ Ez ((p0 + 1).toNat) 4 ≤ ((En ((p0 + 1).toNat) 4 : Nat) : Int) ∧ ((En ((p0 + 1).toNat) 4 : Nat) : Int) ≤ 20 := (hPE ((p0 + 1).toNat) hj21).1 4 (by decide)
        have he_23 : 0 ≤ Ez ((p0 + 1).toNat) 5 ∧ Ez ((p0 + 1).toNat) 5 ≤ ((En ((p0 + 1).toNat) 5 : Nat) : Int) ∧ ((En ((p0 + 1).toNat) 5 : Nat) : Int) ≤ 20 := (hPE ((p0 + 1).toNat) hj21).1 5 (by decide)
        have he_24 : 0 ≤ Ez ((p0 + 1).toNat) 6 ∧ Ez ((p0 + 1).toNat) 6 ≤ ((En ((p0 + 1).toNat) 6 : Nat) : Int) ∧ ((En ((p0 + 1).toNat) 6 : Nat) : Int) ≤ 20 := (hPE ((p0 + 1).toNat) hj21).1 6 (by decide)
        have hPc := hP.sub (ws' := (sU cI 20 (Eo ((p0 + 1).toNat) 5) (Eo ((p0 + 1).toNat) 6) (Eo ((p0 + 1).toNat) 7) (Eo ((p0 + 1).toNat) 8) (Er ((p0 + 1).toNat) 4) (Er ((p0 + 1).toNat) 5) (Er ((p0 + 1).toNat) 6) (En ((p0 + 1).toNat) 4) (En ((p0 + 1).toNat) 5) (En ((p0 + 1).toNat) 6) (Ez ((p0 + 1).toNat) 4) (Ez ((p0 + 1).toNat) 5) (Ez ((p0 + 1).toNat) 6) (EF ((p0 + 1).toNat) 4) (EF ((p0 + 1).toNat) 5) (EF ((p0 + 1).toNat) 6))) [38, 39, 40, 41, 42, 43, 44] rfl
        refine xk_pure (va_runV (As := []) (rest := []) ⟨hx, hb, hml, hown, hts⟩ (x_sfull l dC dI cI cB cE 20 (Eo ((p0 + 1).toNat) 5) (Eo ((p0 + 1).toNat) 6) (Eo ((p0 + 1).toNat) 7) (Eo ((p0 + 1).toNat) 8) (Er ((p0 + 1).toNat) 4) (Er ((p0 + 1).toNat) 5) (Er ((p0 + 1).toNat) 6) (En ((p0 + 1).toNat) 4) (En ((p0 + 1).toNat) 5) (En ((p0 + 1).toNat) 6) (Ez ((p0 + 1).toNat) 4) (Ez ((p0 + 1).toNat) 5) (Ez ((p0 + 1).toNat) 6) (EF ((p0 + 1).toNat) 4) (EF ((p0 + 1).toNat) 5) (EF ((p0 + 1).toNat) 6)  H.size (by omega) ((hPE ((p0 + 1).toNat) hj21).2.1 4) (by omega) ((hPE ((p0 + 1).toNat) hj21).2.1 5) (by omega) ((hPE ((p0 + 1).toNat) hj21).2.1 6)) (cwV 0 hts (kx_gV kq_21_xcalls_21 kq_21_xcalls_22 kq_21_xcalls_23 kq_15_xspan_53 kq_21_xcalls_24 rfl) rfl rfl rfl (by decide +kernel) ⟨Nat.le_of_ble_eq_true rfl, Nat.le_of_ble_eq_true rfl⟩) ⟨pPre_blind, va_recv hK hPc (ci := 3) (q0 := 0) rfl rfl, pPre_give hPc hK hG⟩ rfl rfl hl.1 rfl (lv_room (Nat.le_of_ble_eq_true rfl)) dX5_page_38 ⟨show (0 + dn_4) + 0 ≤ 200 from (by omega), show (0 + dm_5) + 0 ≤ 60000 from (by omega)⟩) hS (fun z_26 locs hq_25 hS => ?_)
        refine W.eq (g2 := F0 m 41 ls [.int (iz z_26)]) rfl ?_
        try dsimp only at hq_25
        rcases hq_25 with ⟨rfl, hq_25⟩ | ⟨rfl, hq_25⟩
        · skip
          refine ki_if_eq (tgt := 52) hx hb dX5_page_41 (by decide) (by omega) (by omega) (fun c_27 => ?_) (fun c_27 => ?_)
          · omega
          · skip
            have hP := eP_un0 hj21 hP
            have hD := eD_un0 hj21 hD
            exact ky_thr_UOE hx hb hlf hown hG hZ hS (hl.1.trans hml.symm) dX5_page_44 dX5_page_47 dX5_page_48 dX5_page_51 htab (Nat.le_of_ble_eq_true rfl) (Nat.le_of_ble_eq_true rfl) (show (0 + dn_4) + 1 ≤ 200 from (by omega)) (show (0 + dm_5) + 6 ≤ 60000 from (by omega)) hlocks (Or.inr (Or.inr (⟨rfl, by first | trivial | omega⟩))) (fun t hvm h1 h2 => ⟨(r, n, z, F, Er, En, Ez, EF), ⟨hok, xFr.rf, hPE, eFr.rf⟩, hP.kept (fun k q hk => h2 q.1 (hP k q hk).lt), va_K.moved hvm hK, hD⟩) hS.2.2 (by omega) (by omega) (by omega) (by omega)
        · skip
          refine ki_if_eq (tgt := 52) hx hb dX5_page_41 (by decide) (by omega) (by omega) (fun c_28 => ?_) (fun c_28 => ?_)
          · skip
            refine lv_iload_n hx hb dX5_page_52 rfl (lv_at hl 3 rfl) ?_
            refine lv_ldc (v := 100000) hx hb hown (kx_word hG kq_19_xouts_55 rfl) dX5_page_53 ?_
            refine ki_is (show (100000 : Int32) = iz 100000 by decide) ?_
            refine ki_imul hx hb dX5_page_55 ?_
            refine lv_iload_n hx hb dX5_page_56 rfl (lv_at hl 4 rfl) ?_
            refine ki_iadd hx hb dX5_page_57 ?_
            refine lv_istore (lv' := [(5, .int (iz ((p1 * 100000) + p2))), (4, .ref (Eo ((p0 + 1).toNat) 5)), (0, .ref (o 15)), (1, .int (iz p0)), (2, .int (iz p1)), (3, .int (iz p2))]) hx hb dX5_page_58 hl (by decide) rfl (fun ls hl => ?_)
            refine lv_aload hx hb dX5_page_60 (lv_at hl 1 rfl) ?_
            refine lv_iload hx hb dX5_page_62 (lv_at hl 0 rfl) ?_
            refine lv_iload hx hb dX5_page_64 (lv_at hl 0 rfl) ?_
            refine lv_iconst (v := iz 0) hx hb dX5_page_66 (by decide) ?_
            have hPc := hP.sub (ws' := (sU cI 20 (Eo ((p0 + 1).toNat) 5) (Eo ((p0 + 1).toNat) 6) (Eo ((p0 + 1).toNat) 7) (Eo ((p0 + 1).toNat) 8) (Er ((p0 + 1).toNat) 4) (Er ((p0 + 1).toNat) 5) (Er ((p0 + 1).toNat) 6) (En ((p0 + 1).toNat) 4) (En ((p0 + 1).toNat) 5) (En ((p0 + 1).toNat) 6) (Ez ((p0 + 1).toNat) 4) (Ez ((p0 + 1).toNat) 5) (Ez ((p0 + 1).toNat) 6) (EF ((p0 + 1).toNat) 4) (EF ((p0 + 1).toNat) 5) (EF ((p0 + 1).toNat) 6))) [38, 39, 40, 41, 42, 43, 44] rfl
            have hDc := hD.sub (ws' := (sU cI 20 (Eo ((p0 + 1).toNat) 5) (Eo ((p0 + 1).toNat) 6) (Eo ((p0 + 1).toNat) 7) (Eo ((p0 + 1).toNat) 8) (Er ((p0 + 1).toNat) 4) (Er ((p0 + 1).toNat) 5) (Er ((p0 + 1).toNat) 6) (En ((p0 + 1).toNat) 4) (En ((p0 + 1).toNat) 5) (En ((p0 + 1).toNat) 6) (Ez ((p0 + 1).toNat) 4) (Ez ((p0 + 1).toNat) 5) (Ez ((p0 + 1).toNat) 6) (EF ((p0 + 1).toNat) 4) (EF ((p0 + 1).toNat) 5) (EF ((p0 + 1).toNat) 6))) [38, 39, 40, 41, 42, 43, 44] (by decide) rfl
            have hFc := va_free (wc := (sU cI 20 (Eo ((p0 + 1).toNat) 5) (Eo ((p0 + 1).toNat) 6) (Eo ((p0 + 1).toNat) 7) (Eo ((p0 + 1).toNat) 8) (Er ((p0 + 1).toNat) 4) (Er ((p0 + 1).toNat) 5) (Er ((p0 + 1).toNat) 6) (En ((p0 + 1).toNat) 4) (En ((p0 + 1).toNat) 5) (En ((p0 + 1).toNat) 6) (Ez ((p0 + 1).toNat) 4) (Ez ((p0 + 1).toNat) 5) (Ez ((p0 + 1).toNat) 6) (EF ((p0 + 1).toNat) 4) (EF ((p0 + 1).toNat) 5) (EF ((p0 + 1).toNat) 6))) hD hS hA [38, 39, 40, 41, 42, 43, 44] rfl
            refine xk_call (va_runV (As := [.int (iz ((p1 * 100000) + p2)), .int (iz ((p1 * 100000) + p2)), .int (iz 0)]) (rest := []) ⟨hx, hb, hml, hown, hts⟩ (x_sadd l dC dI cI cB cE 20 (Eo ((p0 + 1).toNat) 5) (Eo ((p0 + 1).toNat) 6) (Eo ((p0 + 1).toNat) 7) (Eo ((p0 + 1).toNat) 8) (Er ((p0 + 1).toNat) 4) (Er ((p0 + 1).toNat) 5) (Er ((p0 + 1).toNat) 6) (En ((p0 + 1).toNat) 4) (En ((p0 + 1).toNat) 5) (En ((p0 + 1).toNat) 6) (Ez ((p0 + 1).toNat) 4) (Ez ((p0 + 1).toNat) 5) (Ez ((p0 + 1).toNat) 6) (EF ((p0 + 1).toNat) 4) (EF ((p0 + 1).toNat) 5) (EF ((p0 + 1).toNat) 6) ((p1 * 100000) + p2) ((p1 * 100000) + p2) 0 H.size (by omega) ((hPE ((p0 + 1).toNat) hj21).2.1 4) (by omega) ((hPE ((p0 + 1).toNat) hj21).2.1 5) (by omega) ((hPE ((p0 + 1).toNat) hj21).2.1 6) (by omega) (by omega) (by omega) (by omega) (by omega)) (cwV 3 hts (kx_gV kq_19_xouts_1 kq_15_xspan_72 kq_15_xspan_73 kq_15_xspan_53 kq_15_xspan_74 rfl) rfl rfl rfl (by decide +kernel) ⟨Nat.le_of_ble_eq_true rfl, Nat.le_of_ble_eq_true rfl⟩) ⟨kx_blind, va_recv hK hPc (ci := 3) (q0 := 0) rfl rfl, kx_give (ws := []) (tys := []) hPc hDc hK hG hZ hS hFc⟩ rfl rfl hl.1 rfl (lv_room (Nat.le_of_ble_eq_true rfl)) dX5_page_67 ⟨show (0 + dn_4) + 3 ≤ 200 from (by omega), show (0 + dm_5) + 4800 ≤ 60000 from (by omega)⟩) hS (fun q _ h => hFc q h) hFc (fun u dn_30 dm_31 t H locs ht hvm hq_29 hB hk1 hS => ?_)
            obtain ⟨r1_32, n1_33, z1_34, F1_35, r2_36, n2_37, z2_38, F2_39, r3_40, n3_41, z3_42, F3_43⟩ := u
            obtain ⟨hP1, hK1, hD1⟩ := hB
            rw [ht] at hP1
            obtain ⟨hP, hD⟩ := xj_pool (wr := [(o 15, .inr (5, [.ref (o 16), .ref (Eo 0 0), .int (iz (z 12)), .int (iz (z 13)), .int (iz (z 14)), .ref (o 0), .ref (o 1), .int (iz (z 15)), .ref (o 13), .ref (o 14), .int (iz (z 16)), .ref (o 2), .ref (o 12), .ref (o 3), .ref (o 10), .ref (o 11)])), (o 16, .inl (cE, 80, .inr (.inr (.inr (.inr G))))), (o 0, .inr (1, [.int (iz 80), .ref (r 0), .int (iz (z 0))])), (r 0, .inl (cI, n 0, .inl (iA (F 0)))), (o 1, .inr (1, [.int (iz 80), .ref (r 1), .int (iz (z 1))])), (r 1, .inl (cI, n 1, .inl (iA (F 1)))), (o 2, .inr (1, [.int (iz 80), .ref (r 2), .int (iz (z 2))])), (r 2, .inl (cI, n 2, .inl (iA (F 2)))), (o 3, .inr (1, [.int (iz 80), .ref (r 3), .int (iz (z 3))])), (r 3, .inl (cI, n 3, .inl (iA (F 3)))), (o 13, .inr (3, [.ref (o 4), .ref (o 5), .ref (o 6)])), (o 4, .inr (1, [.int (iz 1600), .ref (r 4), .int (iz (z 4))])), (r 4, .inl (cI, n 4, .inl (iA (F 4)))), (o 5, .inr (1, [.int (iz 1600), .ref (r 5), .int (iz (z 5))])), (r 5, .inl (cI, n 5, .inl (iA (F 5)))), (o 6, .inr (1, [.int (iz 1600), .ref (r 6), .int (iz (z 6))])), (r 6, .inl (cI, n 6, .inl (iA (F 6)))), (o 14, .inr (3, [.ref (o 7), .ref (o 8), .ref (o 9)])), (o 7, .inr (1, [.int (iz 1600), .ref (r 7), .int (iz (z 7))])), (r 7, .inl (cI, n 7, .inl (iA (F 7)))), (o 8, .inr (1, [.int (iz 1600), .ref (r 8), .int (iz (z 8))])), (r 8, .inl (cI, n 8, .inl (iA (F 8)))), (o 9, .inr (1, [.int (iz 1600), .ref (r 9), .int (iz (z 9))])), (r 9, .inl (cI, n 9, .inl (iA (F 9)))), (o 12, .inr (4, [.int (iz (z 17)), .int (iz (z 18)), .int (iz (z 19)), .int (iz (z 20)), .int (iz (z 21))])), (o 10, .inr (2, [.ref (r 10), .int (iz (z 10)), .int (iz (z 22))])), (r 10, .inl (cB, n 10, .inl (iA (F 10)))), (o 11, .inr (2, [.ref (r 11), .int (iz (z 11)), .int (iz (z 23))])), (r 11, .inl (cB, n 11, .inl (iA (F 11)))), (Eo ((p0 + 1).toNat) 0, .inr (0, [.int (iz (Ez ((p0 + 1).toNat) 7)), .int (iz (Ez ((p0 + 1).toNat) 8)), .ref (Eo ((p0 + 1).toNat) 1), .ref (Eo ((p0 + 1).toNat) 2), .ref (Eo ((p0 + 1).toNat) 3), .ref (Eo ((p0 + 1).toNat) 5), .ref (Eo ((p0 + 1).toNat) 4), .int (iz (Ez ((p0 + 1).toNat) 9)), .int (iz (Ez ((p0 + 1).toNat) 10)), .int (iz (Ez ((p0 + 1).toNat) 11)), .int (iz (Ez ((p0 + 1).toNat) 12)), .int (iz (Ez ((p0 + 1).toNat) 13))])), (Eo ((p0 + 1).toNat) 1, .inr (1, [.int (iz 20), .ref (Er ((p0 + 1).toNat) 0), .int (iz (Ez ((p0 + 1).toNat) 0))])), (Er ((p0 + 1).toNat) 0, .inl (cI, En ((p0 + 1).toNat) 0, .inl (iA (EF ((p0 + 1).toNat) 0)))), (Eo ((p0 + 1).toNat) 2, .inr (1, [.int (iz 20), .ref (Er ((p0 + 1).toNat) 1), .int (iz (Ez ((p0 + 1).toNat) 1))])), (Er ((p0 + 1).toNat) 1, .inl (cI, En ((p0 + 1).toNat) 1, .inl (iA (EF ((p0 + 1).toNat) 1)))), (Eo ((p0 + 1).toNat) 3, .inr (1, [.int (iz 40), .ref (Er ((p0 + 1).toNat) 2), .int (iz (Ez ((p0 + 1).toNat) 2))])), (Er ((p0 + 1).toNat) 2, .inl (cI, En ((p0 + 1).toNat) 2, .inl (iA (EF ((p0 + 1).toNat) 2)))), (Eo ((p0 + 1).toNat) 4, .inr (1, [.int (iz 5), .ref (Er ((p0 + 1).toNat) 3), .int (iz (Ez ((p0 + 1).toNat) 3))])), (Er ((p0 + 1).toNat) 3, .inl (cI, En ((p0 + 1).toNat) 3, .inl (iA (EF ((p0 + 1).toNat) 3))))]) (w1 := (sU cI 20 (Eo ((p0 + 1).toNat) 5) (Eo ((p0 + 1).toNat) 6) (Eo ((p0 + 1).toNat) 7) (Eo ((p0 + 1).toNat) 8) r1_32 r2_36 r3_40 n1_33 n2_37 n3_41 z1_34 z2_38 z3_42 F1_35 F2_39 F3_43)) (ws' := ((xU cI cB cE o r n z F G (Eo 0 0)) ++ (eU cI (Eo ((p0 + 1).toNat)) (va_up (va_up (va_up (Er ((p0 + 1).toNat)) 4 r1_32) 5 r2_36) 6 r3_40) (va_up (va_up (va_up (En ((p0 + 1).toNat)) 4 n1_33) 5 n2_37) 6 n3_41) (va_up (va_up (va_up (Ez ((p0 + 1).toNat)) 4 z1_34) 5 z2_38) 6 z3_42) (va_up (va_up (va_up (EF ((p0 + 1).toNat)) 4 F1_35) 5 F2_39) 6 F3_43)))) hP hD [38, 39, 40, 41, 42, 43, 44] [0, 1, 2, 3, 4, 5, 6, 7, 8, 9, 10, 11, 12, 13, 14, 15, 16, 17, 18, 19, 20, 21, 22, 23, 24, 25, 26, 27, 28, 29, 30, 31, 32, 33, 34, 35, 36, 37] [0, 1, 2, 3, 4, 5, 6, 7, 8, 9, 10, 11, 12, 13, 14, 15, 16, 17, 18, 19, 20, 21, 22, 23, 24, 25, 26, 27, 28, 29, 30, 31, 32, 33, 34, 35, 36, 37, 38, 39, 40, 41, 42, 43, 44] rfl rfl (by decide) (by decide) hk1 hFc hP1 hD1 rfl (by decide)
            refine W.eq (g2 := F0 m 70 ls []) rfl ?_
            try dsimp only at hq_29
            obtain ⟨ha44, hb144, hb44, hb244, hc44, hb344, hd44, hA44, hAA44⟩ := hq_29
            have hax44 := hA44.1
            have hpg144 := psg_le 20 (En ((p0 + 1).toNat) 4)
            have hpj144 := psj_le (L := 20) (by omega) (En ((p0 + 1).toNat) 4)
            have hpg244 := psg_le 20 (En ((p0 + 1).toNat) 5)
            have hpj244 := psj_le (L := 20) (by omega) (En ((p0 + 1).toNat) 5)
            have hpg344 := psg_le 20 (En ((p0 + 1).toNat) 6)
            have hpj344 := psj_le (L := 20) (by omega) (En ((p0 + 1).toNat) 6)
            refine lv_aload_n hx hb dX5_page_70 rfl (lv_at hl 2 rfl) ?_
            refine lv_iconst (v := iz (-1)) hx hb dX5_page_71 (by decide) ?_
            refine va_put (D := (dC, dI)) (ci := 5) (v := .int (iz (-1))) (ty := .int) (C := RX5) (T := TX5) (N := 16) hx hb hts kt_X5 tyX5 tyX5_ok nmX5 hown hK hP hD hS 0 rfl rfl 10 (by decide) (kx_word hG kq_18_xrows_26 rfl) (fun _ h9 => h9) rfl (by decide +kernel) rfl rfl (Nat.le_of_ble_eq_true rfl) dX5_page_72 (fun H locs hP hD hS => ?_)
            have hP : va_P (dC, dI) kxCl (((xU cI cB cE o r n (va_up z 16 (-1)) F G (Eo 0 0)) ++ (eU cI (Eo ((p0 + 1).toNat)) (va_up (va_up (va_up (Er ((p0 + 1).toNat)) 4 r1_32) 5 r2_36) 6 r3_40) (va_up (va_up (va_up (En ((p0 + 1).toNat)) 4 n1_33) 5 n2_37) 6 n3_41) (va_up (va_up (va_up (Ez ((p0 + 1).toNat)) 4 z1_34) 5 z2_38) 6 z3_42) (va_up (va_up (va_up (EF ((p0 + 1).toNat)) 4 F1_35) 5 F2_39) 6 F3_43))) ++ (eR cI N ((p0 + 1).toNat) Eo Er En Ez EF)) H := hP
            have hD : va_D A (((xU cI cB cE o r n (va_up z 16 (-1)) F G (Eo 0 0)) ++ (eU cI (Eo ((p0 + 1).toNat)) (va_up (va_up (va_up (Er ((p0 + 1).toNat)) 4 r1_32) 5 r2_36) 6 r3_40) (va_up (va_up (va_up (En ((p0 + 1).toNat)) 4 n1_33) 5 n2_37) 6 n3_41) (va_up (va_up (va_up (Ez ((p0 + 1).toNat)) 4 z1_34) 5 z2_38) 6 z3_42) (va_up (va_up (va_up (EF ((p0 + 1).toNat)) 4 F1_35) 5 F2_39) 6 F3_43))) ++ (eR cI N ((p0 + 1).toNat) Eo Er En Ez EF)) := hD
            refine lv_aload hx hb dX5_page_75 (lv_at hl 1 rfl) ?_
            have hPc := hP.sub (ws' := (sU cI 20 (Eo ((p0 + 1).toNat) 5) (Eo ((p0 + 1).toNat) 6) (Eo ((p0 + 1).toNat) 7) (Eo ((p0 + 1).toNat) 8) r1_32 r2_36 r3_40 n1_33 n2_37 n3_41 z1_34 z2_38 z3_42 F1_35 F2_39 F3_43)) [38, 39, 40, 41, 42, 43, 44] rfl
            refine xk_pure (va_runV (As := []) (rest := []) ⟨hx, hb, hml, hown, hts⟩ (x_ssize l dC dI cI cB cE 20 (Eo ((p0 + 1).toNat) 5) (Eo ((p0 + 1).toNat) 6) (Eo ((p0 + 1).toNat) 7) (Eo ((p0 + 1).toNat) 8) r1_32 r2_36 r3_40 n1_33 n2_37 n3_41 z1_34 z2_38 z3_42 F1_35 F2_39 F3_43  H.size ) (cwV 0 hts (kx_gV kq_19_xouts_3 kq_15_xspan_51 kq_15_xspan_52 kq_15_xspan_53 kq_15_xspan_54 rfl) rfl rfl rfl (by decide +kernel) ⟨Nat.le_of_ble_eq_true rfl, Nat.le_of_ble_eq_true rfl⟩) ⟨pPre_blind, va_recv hK hPc (ci := 3) (q0 := 0) rfl rfl, pPre_give hPc hK hG⟩ rfl rfl hl.1 rfl (lv_room (Nat.le_of_ble_eq_true rfl)) dX5_page_77 ⟨show ((0 + dn_4) + dn_30) + 0 ≤ 200 from (by omega), show ((0 + dm_5) + dm_31) + 0 ≤ 60000 from (by omega)⟩) hS (fun z_46 locs hq_45 hS => ?_)
            refine W.eq (g2 := F0 m 80 ls [.int (iz z_46)]) rfl ?_
            try dsimp only at hq_45
            have hq_45 := hq_45.symm
            subst hq_45
            have hP : va_P (dC, dI) kxCl (((xU cI cB cE o r n (va_up z 16 (-1)) F G (Eo 0 0)) ++ (eU cI (Eo ((p0 + 1).toNat)) (va_up (va_up (va_up (Er ((p0 + 1).toNat)) 4 r1_32) 5 r2_36) 6 r3_40) (va_up (va_up (va_up (En ((p0 + 1).toNat)) 4 n1_33) 5 n2_37) 6 n3_41) (va_up (va_up (va_up (Ez ((p0 + 1).toNat)) 4 z1_34) 5 z2_38) 6 z3_42) (va_up (va_up (va_up (EF ((p0 + 1).toNat)) 4 F1_35) 5 F2_39) 6 F3_43))) ++ (eR cI N ((p0 + 1).toNat) Eo Er En Ez EF)) H := hP
            have hD : va_D A (((xU cI cB cE o r n (va_up z 16 (-1)) F G (Eo 0 0)) ++ (eU cI (Eo ((p0 + 1).toNat)) (va_up (va_up (va_up (Er ((p0 + 1).toNat)) 4 r1_32) 5 r2_36) 6 r3_40) (va_up (va_up (va_up (En ((p0 + 1).toNat)) 4 n1_33) 5 n2_37) 6 n3_41) (va_up (va_up (va_up (Ez ((p0 + 1).toNat)) 4 z1_34) 5 z2_38) 6 z3_42) (va_up (va_up (va_up (EF ((p0 + 1).toNat)) 4 F1_35) 5 F2_39) 6 F3_43))) ++ (eR cI N ((p0 + 1).toNat) Eo Er En Ez EF)) := hD
            have hP := eP_unf hj21 hP
            have hD := eD_unf hj21 hD
            have hPE47 := hPE.up ((p0 + 1).toNat) ((((hPE ((p0 + 1).toNat) hj21).i 4 (by decide) (show 0 ≤ z1_34 ∧ z1_34 ≤ ((n1_33 : Nat) : Int) ∧ ((n1_33 : Nat) : Int) ≤ 20 by omega) hb144 (by omega)).i 5 (by decide) (show 0 ≤ z2_38 ∧ z2_38 ≤ ((n2_37 : Nat) : Int) ∧ ((n2_37 : Nat) : Int) ≤ 20 by omega) hb244 (by omega)).i 6 (by decide) (show 0 ≤ z3_42 ∧ z3_42 ≤ ((n3_41 : Nat) : Int) ∧ ((n3_41 : Nat) : Int) ≤ 20 by omega) hb344 (by omega))
            have hef47 := hef.up ((p0 + 1).toNat) (z := (va_up (va_up (va_up (Ez ((p0 + 1).toNat)) 4 z1_34) 5 z2_38) 6 z3_42)) (n := (va_up (va_up (va_up (En ((p0 + 1).toNat)) 4 n1_33) 5 n2_37) 6 n3_41)) (F := (va_up (va_up (va_up (EF ((p0 + 1).toNat)) 4 F1_35) 5 F2_39) 6 F3_43)) (fun k hk => (vfr hk _ (by decide) (vfr hk _ (by decide) (vfr hk _ (by decide) rfl)))) (fun k hk => ⟨(vfr hk _ (by decide) (vfr hk _ (by decide) (vfr hk _ (by decide) rfl))), (vfr hk _ (by decide) (vfr hk _ (by decide) (vfr hk _ (by decide) rfl)))⟩)
            generalize eEr47 : va_up Er ((p0 + 1).toNat) (va_up (va_up (va_up (Er ((p0 + 1).toNat)) 4 r1_32) 5 r2_36) 6 r3_40) = Er47 at hP hD
            generalize eEn47 : va_up En ((p0 + 1).toNat) (va_up (va_up (va_up (En ((p0 + 1).toNat)) 4 n1_33) 5 n2_37) 6 n3_41) = En47 at hP hD hPE47 hef47
            generalize eEz47 : va_up Ez ((p0 + 1).toNat) (va_up (va_up (va_up (Ez ((p0 + 1).toNat)) 4 z1_34) 5 z2_38) 6 z3_42) = Ez47 at hP hD hPE47 hef47
            generalize eEF47 : va_up EF ((p0 + 1).toNat) (va_up (va_up (va_up (EF ((p0 + 1).toNat)) 4 F1_35) 5 F2_39) 6 F3_43) = EF47 at hP hD hPE47 hef47
            have hcl47_0 : Ez47 ((p0 + 1).toNat) 0 = Ez ((p0 + 1).toNat) 0 := by rw [← eEz47]; simp (decide := true) only [va_ev, ↓reduceIte]
            have hcl47_4 : Ez47 ((p0 + 1).toNat) 4 = z1_34 := by rw [← eEz47]; simp (decide := true) only [va_ev, ↓reduceIte]
            have hcl47_7 : Ez47 ((p0 + 1).toNat) 7 = Ez ((p0 + 1).toNat) 7 := by rw [← eEz47]; simp (decide := true) only [va_ev, ↓reduceIte]
            have hcl47_9 : Ez47 ((p0 + 1).toNat) 9 = Ez ((p0 + 1).toNat) 9 := by rw [← eEz47]; simp (decide := true) only [va_ev, ↓reduceIte]
            have hcF47_4 : EF47 ((p0 + 1).toNat) 4 = F1_35 := by rw [← eEF47]; simp (decide := true) only [va_ev, ↓reduceIte]
            have hxz_48 : -2147483648 ≤ z 16 ∧ z 16 < 2147483648 := hok.2.2.2.1 16
            have hok49 : xOk n (va_up z 16 (-1)) F := (hok.s 16 (by decide) (show -2147483648 ≤ (-1) ∧ (-1) < 2147483648 by omega) (by omega))
            have hfr49 : xFr [16] [] z F (va_up z 16 (-1)) F := (hfr.uz 16 (by decide) _)
            refine vx_ret ?_
            exact xk_iret (ov := (fun u : (Int) × (Nat → Nat) × (Nat → Nat) × (Nat → Int) × (Nat → Int → Int) × (Nat → Nat → Nat) × (Nat → Nat → Nat) × (Nat → Nat → Int) × (Nat → Nat → Int → Int) => match u with | (q, r', n', z', F', Er', En', Ez', EF') => some (.int (iz q)))) (post := (fun (u : (Int) × (Nat → Nat) × (Nat → Nat) × (Nat → Int) × (Nat → Int → Int) × (Nat → Nat → Nat) × (Nat → Nat → Nat) × (Nat → Nat → Int) × (Nat → Nat → Int → Int)) (dn dm : Nat) => match u with | (q, r', n', z', F', Er', En', Ez', EF') => xR [16] [] [4, 5, 6] [4, 5, 6] N z F En Ez EF n' z' F' En' Ez' EF' ∧ (dn + xg n' ≤ xg n + 30 ∧ dm + xp n' ≤ xp n + 200) ∧ ((0 ≤ p0 ∧ p0 < z 12) ∧ (1 ≤ p2 ∧ ((p1 = 0 ∧ p2 ≤ 3999) ∨ (p1 = 1 ∧ p2 ≤ 99999) ∨ (p1 = 2 ∧ p2 ≤ 702))) ∧ Ez ((p0 + 1).toNat) 4 < 20 ∧ q = Ez ((p0 + 1).toNat) 4 + 1 ∧ Ez' ((p0 + 1).toNat) 4 = Ez ((p0 + 1).toNat) 4 + 1 ∧ (∀ i, 0 ≤ i → i < Ez ((p0 + 1).toNat) 4 → EF' ((p0 + 1).toNat) 4 i = EF ((p0 + 1).toNat) 4 i) ∧ (∀ j, j ≠ ((p0 + 1).toNat) → Ez' j = Ez j ∧ EF' j = EF j)))) (ws := (fun u : (Int) × (Nat → Nat) × (Nat → Nat) × (Nat → Int) × (Nat → Int → Int) × (Nat → Nat → Nat) × (Nat → Nat → Nat) × (Nat → Nat → Int) × (Nat → Nat → Int → Int) => match u with | (q, r', n', z', F', Er', En', Ez', EF') => (xU cI cB cE o r' n' z' F' G (Eo 0 0) ++ eP cI N Eo Er' En' Ez' EF'))) (tys := xT cI cB cE) (z := z1_34) (z1_34, r, n, (va_up z 16 (-1)), F, Er47, En47, Ez47, EF47) hx hb hr rfl hlocks rfl hP hD hK hS dX5_page_80 (fun dn dm hdn hdm => ⟨⟨hok49, hfr49, hPE47, hef47⟩, ⟨by omega, by omega⟩, ⟨by omega, by omega, by omega, by omega, by omega, fun i h1 h2 => by rw [← eEF47]; simp (decide := true) only [va_ev, ↓reduceIte]; exact hA44.2 i h1 h2, fun j hj => ⟨by rw [← eEz47]; exact va_up_ne _ _ hj, by rw [← eEF47]; exact va_up_ne _ _ hj⟩⟩⟩) (by omega) (by omega)
          · omega
      · skip
        exact ky_thr_IAE hx hb hlf hown hG hZ hS (hl.1.trans hml.symm) dX5_page_18 dX5_page_21 dX5_page_22 dX5_page_25 htab (Nat.le_of_ble_eq_true rfl) (Nat.le_of_ble_eq_true rfl) (show (0 + dn_4) + 1 ≤ 200 from (by omega)) (show (0 + dm_5) + 6 ≤ 60000 from (by omega)) hlocks (Or.inr (Or.inl ⟨rfl, by first | trivial | omega⟩)) (fun t hvm h1 h2 => ⟨(r, n, z, F, Er, En, Ez, EF), ⟨hok, xFr.rf, hPE, eFr.rf⟩, hP.kept (fun k q hk => h2 q.1 (hP k q hk).lt), va_K.moved hvm hK, hD⟩) hS.2.2 (by omega) (by omega) (by omega) (by omega)
set_option maxHeartbeats 4000000 in
set_option maxRecDepth 100000 in
theorem y_run (l : Launch) (dC : Nat → ClassId) (dI : Nat → Nat → Nat) (cI cB cE : ClassId) (o r n : Nat → Nat) (z : Nat → Int) (F : Nat → Int → Int) (G : Nat → Option Nat) (N : Nat) (Eo Er En : Nat → Nat → Nat) (Ez : Nat → Nat → Int) (EF : Nat → Nat → Int → Int) (sz : Nat) (hok : xOk n z F) (hxG : xG N (z 12) G Eo) (hPE : eA N En Ez EF) : Met l yX5_run [.code yX5_run cX5_run 1 (some .int)] ({ frames := 7, cells := 700, slots := 350000, locals := 196 }) (va_Pc [.ref (o 15)] (kx_Pre dC dI (xU cI cB cE o r n z F G (Eo 0 0) ++ eP cI N Eo Er En Ez EF) (xT cI cB cE) sz)) (xQ (fun u : (Int) × (Nat → Nat) × (Nat → Nat) × (Nat → Int) × (Nat → Int → Int) × (Nat → Nat → Nat) × (Nat → Nat → Nat) × (Nat → Nat → Int) × (Nat → Nat → Int → Int) => match u with | (q, r', n', z', F', Er', En', Ez', EF') => some (.int (iz q))) (fun (u : (Int) × (Nat → Nat) × (Nat → Nat) × (Nat → Int) × (Nat → Int → Int) × (Nat → Nat → Nat) × (Nat → Nat → Nat) × (Nat → Nat → Int) × (Nat → Nat → Int → Int)) (dn dm : Nat) => match u with | (q, r', n', z', F', Er', En', Ez', EF') => xR [0, 1, 15] [0, 1] [10] [] N z F En Ez EF n' z' F' En' Ez' EF' ∧ (dn + xg n' ≤ xg n + 0 ∧ dm + xp n' ≤ xp n + 0) ∧ (True)) (fun u t => kx_At dC dI (va_A (xU cI cB cE o r n z F G (Eo 0 0) ++ eP cI N Eo Er En Ez EF) sz) ((fun u : (Int) × (Nat → Nat) × (Nat → Nat) × (Nat → Int) × (Nat → Int → Int) × (Nat → Nat → Nat) × (Nat → Nat → Nat) × (Nat → Nat → Int) × (Nat → Nat → Int → Int) => match u with | (q, r', n', z', F', Er', En', Ez', EF') => (xU cI cB cE o r' n' z' F' G (Eo 0 0) ++ eP cI N Eo Er' En' Ez' EF')) u) (xT cI cB cE) t) (va_A (xU cI cB cE o r n z F G (Eo 0 0) ++ eP cI N Eo Er En Ez EF) sz)) 700 350000 (va_A (xU cI cB cE o r n z F G (Eo 0 0) ++ eP cI N Eo Er En Ez EF) sz) := by
  refine Met.ofW (cc := cX5_run) (maxL := 1) (ret := (some .int)) (by decide) rfl ?_
  intro p e s m args below meth c s₁ B hml hv
  obtain ⟨rfl, hsz, hP, hK, hD0, hG, hZ⟩ := hv
  have hx := B.exec
  have hb := B.bytes
  have hr := B.returns
  have hts := kx_hts (a := ([.ref (o 15)] : List Value).toArray) hG
  have hown : s.vm.findClass RX5 = some m.cls := findClass_of_methodNamed B.named
  have hlocks := B.notSynchronized
  subst hsz
  have hD := hD0.self (sz := s.heap.size)
  generalize hAe : va_A (xU cI cB cE o r n z F G (Eo 0 0) ++ eP cI N Eo Er En Ez EF) s.heap.size = A at hD hZ ⊢
  have hA : ∀ q : Nat, s.heap.size ≤ q → A q := fun q h => by rw [← hAe]; exact Or.inr h
  have hS : va_S A s.heap s.heap [] := va_S.rf
  have hl := lv_entry ([.ref (o 15)]) (n := 1) (Nat.le_of_ble_eq_true rfl)
  rw [lg_entry_eq]
  generalize (lg_sl ([.ref (o 15)]) ++ List.replicate (1 - (lg_sl ([.ref (o 15)])).length) Slot.unset).toArray = ls at hl ⊢
  obtain ⟨hN1, hN2, hN3, hN4⟩ := hxG
  have hef : eFr [10] [] En Ez EF En Ez EF := eFr.rf
  have hfr : xFr [0, 1, 15] [0, 1] z F z F := xFr.rf
  have hxgl := xg_le n
  have hxpl := xp_le n
  have hl : lv_has ls 1 [(0, .ref (o 15))] := hl
  refine lv_aload_n hx hb dX5_run_0 rfl (lv_at hl 0 rfl) ?_
  have hxz_1 : -2147483648 ≤ z 12 ∧ z 12 < 2147483648 := hok.2.2.2.1 12
  have hxG9 : xG N (z 12) G Eo := ⟨by omega, by omega, by omega, fun e9 h9 => hN4 e9 (by omega)⟩
  have hP : va_P (dC, dI) kxCl (xU cI cB cE o r n z F G (Eo 0 0) ++ eP cI N Eo Er En Ez EF) s.heap := hP
  have hD : va_D A (xU cI cB cE o r n z F G (Eo 0 0) ++ eP cI N Eo Er En Ez EF) := hD
  have hFc := xw_free hD hS hA
  refine xk_call (va_runV (As := []) (rest := []) ⟨hx, hb, hml, hown, hts⟩ (y_findRows l dC dI cI cB cE o r n z F G N Eo Er En Ez EF  s.heap.size hok hxG9 hPE ) (cwV 0 hts (kx_gV kq_21_xcalls_25 kq_21_xcalls_26 kq_21_xcalls_27 kq_18_xrows_4 kq_21_xcalls_28 rfl) rfl rfl rfl (by decide +kernel) ⟨Nat.le_of_ble_eq_true rfl, Nat.le_of_ble_eq_true rfl⟩) ⟨kx_blind, va_recv hK hP (ci := 5) (q0 := 0) rfl rfl, kx_give (ws := []) (tys := []) hP hD hK hG hZ hS hFc⟩ rfl rfl hl.1 rfl (lv_room (Nat.le_of_ble_eq_true rfl)) dX5_run_1 ⟨show 0 + 600 ≤ 700 from (by omega), show 0 + 300000 ≤ 350000 from (by omega)⟩) hS (fun q _ h => hFc q h) hFc (fun u dn_4 dm_5 t H locs ht hvm hq_2 hB hk1 hS => ?_)
  obtain ⟨r_6, n_7, z_8, F_9, Er_10, En_11, Ez_12, EF_13⟩ := u
  obtain ⟨hP, hK1, hD1⟩ := hB
  rw [ht] at hP
  have hD := hD1.weaken (fun _ q _ h => hFc _ h)
  obtain ⟨hR14, hC14, hq_2⟩ := hq_2
  have hok14 := hR14.1
  have hfr14 := hfr.tr (hR14.2.1.mono (S' := [0, 1, 15]) (T' := [0, 1]) (by decide) (by decide))
  have hPE14 := hR14.2.2.1
  have hef14 := hef.tr (hR14.2.2.2.mono (S' := [10]) (T' := []) (by decide) (by decide))
  have hz14 : z_8 12 = (z 12) := hR14.2.1.1 12 (by decide)
  refine W.eq (g2 := F0 m 4 ls []) rfl ?_
  try dsimp only at hq_2
  refine lv_aload_n hx hb dX5_run_4 rfl (lv_at hl 0 rfl) ?_
  refine va_get (D := (dC, dI)) (ci := 5) (v := .ref (o 1)) (C := RX5) (T := TX5) (N := 16) hx hb hts kt_X5 hown hK hP 0 rfl rfl 6 (by decide) (kx_word hG kq_18_xrows_47 rfl) (fun _ h9 => h9) rfl dX5_run_5 ?_
  have hxi_15 : 0 ≤ z_8 1 ∧ z_8 1 ≤ ((n_7 1 : Nat) : Int) ∧ ((n_7 1 : Nat) : Int) ≤ 80 := hok14.1 1 (by decide)
  have hPc := hP.sub (ws' := (iU cI 80 (o 1) (r_6 1) (n_7 1) (z_8 1) (F_9 1))) [4, 5] rfl
  refine xk_pure (va_runV (As := []) (rest := []) ⟨hx, hb, hml, hown, hts⟩ (x_size l dC dI cI cB cE 80 (o 1) (r_6 1) (n_7 1) (z_8 1) (F_9 1)  H.size ) (cwV 0 hts (kx_gV kq_18_xrows_40 kq_15_xspan_10 kq_15_xspan_11 kq_13_xints_6 kq_15_xspan_12 rfl) rfl rfl rfl (by decide +kernel) ⟨Nat.le_of_ble_eq_true rfl, Nat.le_of_ble_eq_true rfl⟩) ⟨pPre_blind, va_recv hK hPc (ci := 1) (q0 := 0) rfl rfl, pPre_give hPc hK hG⟩ rfl rfl hl.1 rfl (lv_room (Nat.le_of_ble_eq_true rfl)) dX5_run_8 ⟨show (0 + dn_4) + 0 ≤ 700 from (by omega), show (0 + dm_5) + 0 ≤ 350000 from (by omega)⟩) hS (fun z_17 locs hq_16 hS => ?_)
  refine W.eq (g2 := F0 m 11 ls [.int (iz z_17)]) rfl ?_
  try dsimp only at hq_16
  have hq_16 := hq_16.symm
  subst hq_16
  exact xk_iret (ov := (fun u : (Int) × (Nat → Nat) × (Nat → Nat) × (Nat → Int) × (Nat → Int → Int) × (Nat → Nat → Nat) × (Nat → Nat → Nat) × (Nat → Nat → Int) × (Nat → Nat → Int → Int) => match u with | (q, r', n', z', F', Er', En', Ez', EF') => some (.int (iz q)))) (post := (fun (u : (Int) × (Nat → Nat) × (Nat → Nat) × (Nat → Int) × (Nat → Int → Int) × (Nat → Nat → Nat) × (Nat → Nat → Nat) × (Nat → Nat → Int) × (Nat → Nat → Int → Int)) (dn dm : Nat) => match u with | (q, r', n', z', F', Er', En', Ez', EF') => xR [0, 1, 15] [0, 1] [10] [] N z F En Ez EF n' z' F' En' Ez' EF' ∧ (dn + xg n' ≤ xg n + 0 ∧ dm + xp n' ≤ xp n + 0) ∧ (True))) (ws := (fun u : (Int) × (Nat → Nat) × (Nat → Nat) × (Nat → Int) × (Nat → Int → Int) × (Nat → Nat → Nat) × (Nat → Nat → Nat) × (Nat → Nat → Int) × (Nat → Nat → Int → Int) => match u with | (q, r', n', z', F', Er', En', Ez', EF') => (xU cI cB cE o r' n' z' F' G (Eo 0 0) ++ eP cI N Eo Er' En' Ez' EF'))) (tys := xT cI cB cE) (z := z_8 1) (z_8 1, r_6, n_7, z_8, F_9, Er_10, En_11, Ez_12, EF_13) hx hb hr rfl hlocks rfl hP hD hK hS dX5_run_11 (fun dn dm hdn hdm => ⟨⟨hok14, hfr14, hPE14, hef14⟩, ⟨by omega, by omega⟩, trivial⟩) (by omega) (by omega)
set_option maxHeartbeats 4000000 in
set_option maxRecDepth 100000 in
theorem y_row (l : Launch) (hlf : l.stackTraces = false) (dC : Nat → ClassId) (dI : Nat → Nat → Nat) (cI cB cE : ClassId) (o r n : Nat → Nat) (z : Nat → Int) (F : Nat → Int → Int) (G : Nat → Option Nat) (N : Nat) (Eo Er En : Nat → Nat → Nat) (Ez : Nat → Nat → Int) (EF : Nat → Nat → Int → Int) (p0 : Int) (p1 : Int) (sz : Nat) (hok : xOk n z F) (hxG : xG N (z 12) G Eo) (hPE : eA N En Ez EF) (hp01 : -2147483648 ≤ p0) (hp02 : p0 < 2147483648) (hp11 : -2147483648 ≤ p1) (hp12 : p1 < 2147483648) : vx_Met l yX5_row [.code yX5_row cX5_row 4 (some .int)] ({ frames := 7, cells := 1200, slots := 600000, locals := 196 }) (va_Pc [.ref (o 15), .int (iz p0), .int (iz p1)] (kx_Pre dC dI (xU cI cB cE o r n z F G (Eo 0 0) ++ eP cI N Eo Er En Ez EF) (xT cI cB cE) sz)) (xQ (fun u : (Int) × (Nat → Nat) × (Nat → Nat) × (Nat → Int) × (Nat → Int → Int) × (Nat → Nat → Nat) × (Nat → Nat → Nat) × (Nat → Nat → Int) × (Nat → Nat → Int → Int) => match u with | (q, r', n', z', F', Er', En', Ez', EF') => some (.int (iz q))) (fun (u : (Int) × (Nat → Nat) × (Nat → Nat) × (Nat → Int) × (Nat → Int → Int) × (Nat → Nat → Nat) × (Nat → Nat → Nat) × (Nat → Nat → Int) × (Nat → Nat → Int → Int)) (dn dm : Nat) => match u with | (q, r', n', z', F', Er', En', Ez', EF') => xR [0, 1, 2, 4, 5, 6, 7, 8, 9, 15, 16] [0, 1, 2, 4, 5, 6, 7, 8, 9] [10] [] N z F En Ez EF n' z' F' En' Ez' EF' ∧ (dn + xg n' ≤ xg n + 0 ∧ dm + xp n' ≤ xp n + 0) ∧ (True)) (fun u t => kx_At dC dI (va_A (xU cI cB cE o r n z F G (Eo 0 0) ++ eP cI N Eo Er En Ez EF) sz) ((fun u : (Int) × (Nat → Nat) × (Nat → Nat) × (Nat → Int) × (Nat → Int → Int) × (Nat → Nat → Nat) × (Nat → Nat → Nat) × (Nat → Nat → Int) × (Nat → Nat → Int → Int) => match u with | (q, r', n', z', F', Er', En', Ez', EF') => (xU cI cB cE o r' n' z' F' G (Eo 0 0) ++ eP cI N Eo Er' En' Ez' EF')) u) (xT cI cB cE) t) (va_A (xU cI cB cE o r n z F G (Eo 0 0) ++ eP cI N Eo Er En Ez EF) sz)) (yX (fun E => (E = "java/lang/IndexOutOfBoundsException" ∧ (True))) 95 41800 (fun t => ∃ u : (Nat → Nat) × (Nat → Nat) × (Nat → Int) × (Nat → Int → Int) × (Nat → Nat → Nat) × (Nat → Nat → Nat) × (Nat → Nat → Int) × (Nat → Nat → Int → Int), match u with | (r', n', z', F', Er', En', Ez', EF') => xR [0, 1, 2, 4, 5, 6, 7, 8, 9, 15, 16] [0, 1, 2, 4, 5, 6, 7, 8, 9] [10] [] N z F En Ez EF n' z' F' En' Ez' EF' ∧ kx_At dC dI (va_A (xU cI cB cE o r n z F G (Eo 0 0) ++ eP cI N Eo Er En Ez EF) sz) (xU cI cB cE o r' n' z' F' G (Eo 0 0) ++ eP cI N Eo Er' En' Ez' EF') (xT cI cB cE) t) (va_A (xU cI cB cE o r n z F G (Eo 0 0) ++ eP cI N Eo Er En Ez EF) sz)) 1200 600000 (va_A (xU cI cB cE o r n z F G (Eo 0 0) ++ eP cI N Eo Er En Ez EF) sz) := by
  refine vx_ofW (cc := cX5_row) (maxL := 4) (ret := (some .int)) (by decide) rfl ?_
  intro p e s m args below meth c s₁ B hml htab hv
  obtain ⟨rfl, hsz, hP, hK, hD0, hG, hZ⟩ := hv
  have hx := B.exec
  have hb := B.bytes
  have hr := B.returns
  have hts := kx_hts (a := ([.ref (o 15), .int (iz p0), .int (iz p1)] : List Value).toArray) hG
  have hown : s.vm.findClass RX5 = some m.cls := findClass_of_methodNamed B.named
  have hlocks := B.notSynchronized
  subst hsz
  have hD := hD0.self (sz := s.heap.size)
  generalize hAe : va_A (xU cI cB cE o r n z F G (Eo 0 0) ++ eP cI N Eo Er En Ez EF) s.heap.size = A at hD hZ ⊢
  have hA : ∀ q : Nat, s.heap.size ≤ q → A q := fun q h => by rw [← hAe]; exact Or.inr h
  have hS : va_S A s.heap s.heap [] := va_S.rf
  have hl := lv_entry ([.ref (o 15), .int (iz p0), .int (iz p1)]) (n := 4) (Nat.le_of_ble_eq_true rfl)
  rw [lg_entry_eq]
  generalize (lg_sl ([.ref (o 15), .int (iz p0), .int (iz p1)]) ++ List.replicate (4 - (lg_sl ([.ref (o 15), .int (iz p0), .int (iz p1)])).length) Slot.unset).toArray = ls at hl ⊢
  obtain ⟨hN1, hN2, hN3, hN4⟩ := hxG
  have hef : eFr [10] [] En Ez EF En Ez EF := eFr.rf
  have hfr : xFr [0, 1, 2, 4, 5, 6, 7, 8, 9, 15, 16] [0, 1, 2, 4, 5, 6, 7, 8, 9] z F z F := xFr.rf
  have hxgl := xg_le n
  have hxpl := xp_le n
  have hl : lv_has ls 4 [(0, .ref (o 15)), (1, .int (iz p0)), (2, .int (iz p1))] := hl
  refine lv_aload_n hx hb dX5_row_0 rfl (lv_at hl 0 rfl) ?_
  have hxz_1 : -2147483648 ≤ z 12 ∧ z 12 < 2147483648 := hok.2.2.2.1 12
  have hxG9 : xG N (z 12) G Eo := ⟨by omega, by omega, by omega, fun e9 h9 => hN4 e9 (by omega)⟩
  have hP : va_P (dC, dI) kxCl (xU cI cB cE o r n z F G (Eo 0 0) ++ eP cI N Eo Er En Ez EF) s.heap := hP
  have hD : va_D A (xU cI cB cE o r n z F G (Eo 0 0) ++ eP cI N Eo Er En Ez EF) := hD
  have hFc := xw_free hD hS hA
  refine xk_call (va_runV (As := []) (rest := []) ⟨hx, hb, hml, hown, hts⟩ (y_findRows l dC dI cI cB cE o r n z F G N Eo Er En Ez EF  s.heap.size hok hxG9 hPE ) (cwV 0 hts (kx_gV kq_21_xcalls_25 kq_21_xcalls_26 kq_21_xcalls_27 kq_18_xrows_4 kq_21_xcalls_28 rfl) rfl rfl rfl (by decide +kernel) ⟨Nat.le_of_ble_eq_true rfl, Nat.le_of_ble_eq_true rfl⟩) ⟨kx_blind, va_recv hK hP (ci := 5) (q0 := 0) rfl rfl, kx_give (ws := []) (tys := []) hP hD hK hG hZ hS hFc⟩ rfl rfl hl.1 rfl (lv_room (Nat.le_of_ble_eq_true rfl)) dX5_row_1 ⟨show 0 + 600 ≤ 1200 from (by omega), show 0 + 300000 ≤ 600000 from (by omega)⟩) hS (fun q _ h => hFc q h) hFc (fun u dn_4 dm_5 t H locs ht hvm hq_2 hB hk1 hS => ?_)
  obtain ⟨r_6, n_7, z_8, F_9, Er_10, En_11, Ez_12, EF_13⟩ := u
  obtain ⟨hP, hK1, hD1⟩ := hB
  rw [ht] at hP
  have hD := hD1.weaken (fun _ q _ h => hFc _ h)
  obtain ⟨hR14, hC14, hq_2⟩ := hq_2
  have hok14 := hR14.1
  have hfr14 := hfr.tr (hR14.2.1.mono (S' := [0, 1, 2, 4, 5, 6, 7, 8, 9, 15, 16]) (T' := [0, 1, 2, 4, 5, 6, 7, 8, 9]) (by decide) (by decide))
  have hPE14 := hR14.2.2.1
  have hef14 := hef.tr (hR14.2.2.2.mono (S' := [10]) (T' := []) (by decide) (by decide))
  have hz14 : z_8 12 = (z 12) := hR14.2.1.1 12 (by decide)
  refine W.eq (g2 := F0 m 4 ls []) rfl ?_
  try dsimp only at hq_2
  refine lv_iload_n hx hb dX5_row_4 rfl (lv_at hl 1 rfl) ?_
  refine ki_if_lt (tgt := 19) hx hb dX5_row_5 (by decide) (by omega) (by omega) (fun c_15 => ?_) (fun c_15 => ?_)
  · skip
    exact ky_thr_IOB hx hb hlf hown hG hZ hS (hl.1.trans hml.symm) dX5_row_19 dX5_row_22 dX5_row_23 dX5_row_26 htab (Nat.le_of_ble_eq_true rfl) (Nat.le_of_ble_eq_true rfl) (show (0 + dn_4) + 1 ≤ 1200 from (by omega)) (show (0 + dm_5) + 6 ≤ 600000 from (by omega)) hlocks (⟨rfl, by first | trivial | omega⟩) (fun t hvm h1 h2 => ⟨(r_6, n_7, z_8, F_9, Er_10, En_11, Ez_12, EF_13), ⟨hok14, hfr14, hPE14, hef14⟩, hP.kept (fun k q hk => h2 q.1 (hP k q hk).lt), va_K.moved hvm hK, hD⟩) hS.2.2 (by omega) (by omega) (by omega) (by omega)
  · skip
    refine lv_iload_n hx hb dX5_row_8 rfl (lv_at hl 1 rfl) ?_
    refine lv_aload_n hx hb dX5_row_9 rfl (lv_at hl 0 rfl) ?_
    refine va_get (D := (dC, dI)) (ci := 5) (v := .ref (o 1)) (C := RX5) (T := TX5) (N := 16) hx hb hts kt_X5 hown hK hP 0 rfl rfl 6 (by decide) (kx_word hG kq_18_xrows_47 rfl) (fun _ h9 => h9) rfl dX5_row_10 ?_
    have hxi_16 : 0 ≤ z_8 1 ∧ z_8 1 ≤ ((n_7 1 : Nat) : Int) ∧ ((n_7 1 : Nat) : Int) ≤ 80 := hok14.1 1 (by decide)
    have hPc := hP.sub (ws' := (iU cI 80 (o 1) (r_6 1) (n_7 1) (z_8 1) (F_9 1))) [4, 5] rfl
    refine xk_pure (va_runV (As := []) (rest := [.int (iz p0)]) ⟨hx, hb, hml, hown, hts⟩ (x_size l dC dI cI cB cE 80 (o 1) (r_6 1) (n_7 1) (z_8 1) (F_9 1)  H.size ) (cwV 0 hts (kx_gV kq_18_xrows_40 kq_15_xspan_10 kq_15_xspan_11 kq_13_xints_6 kq_15_xspan_12 rfl) rfl rfl rfl (by decide +kernel) ⟨Nat.le_of_ble_eq_true rfl, Nat.le_of_ble_eq_true rfl⟩) ⟨pPre_blind, va_recv hK hPc (ci := 1) (q0 := 0) rfl rfl, pPre_give hPc hK hG⟩ rfl rfl hl.1 rfl (lv_room (Nat.le_of_ble_eq_true rfl)) dX5_row_13 ⟨show (0 + dn_4) + 0 ≤ 1200 from (by omega), show (0 + dm_5) + 0 ≤ 600000 from (by omega)⟩) hS (fun z_18 locs hq_17 hS => ?_)
    refine W.eq (g2 := F0 m 16 ls [.int (iz z_18), .int (iz p0)]) rfl ?_
    try dsimp only at hq_17
    have hq_17 := hq_17.symm
    subst hq_17
    refine ki_icmp_lt (tgt := 27) hx hb dX5_row_16 (by decide) (by omega) (by omega) (by omega) (by omega) (fun c_19 => ?_) (fun c_19 => ?_)
    · skip
      refine lv_aload_n hx hb dX5_row_27 rfl (lv_at hl 0 rfl) ?_
      refine va_get (D := (dC, dI)) (ci := 5) (v := .ref (o 1)) (C := RX5) (T := TX5) (N := 16) hx hb hts kt_X5 hown hK hP 0 rfl rfl 6 (by decide) (kx_word hG kq_18_xrows_47 rfl) (fun _ h9 => h9) rfl dX5_row_28 ?_
      refine lv_iload_n hx hb dX5_row_31 rfl (lv_at hl 1 rfl) ?_
      have hPc := hP.sub (ws' := (iU cI 80 (o 1) (r_6 1) (n_7 1) (z_8 1) (F_9 1))) [4, 5] rfl
      refine xk_pure (va_runV (As := [.int (iz p0)]) (rest := []) ⟨hx, hb, hml, hown, hts⟩ (x_get l dC dI cI cB cE 80 (o 1) (r_6 1) (n_7 1) (z_8 1) (F_9 1) p0 H.size (by omega) (hok14.2.2.1 1) (by omega) (by omega)) (cwV 1 hts (kx_gV kq_18_xrows_41 kq_13_xints_4 kq_13_xints_5 kq_13_xints_6 kq_13_xints_7 rfl) rfl rfl rfl (by decide +kernel) ⟨Nat.le_of_ble_eq_true rfl, Nat.le_of_ble_eq_true rfl⟩) ⟨pPre_blind, va_recv hK hPc (ci := 1) (q0 := 0) rfl rfl, pPre_give hPc hK hG⟩ rfl rfl hl.1 rfl (lv_room (Nat.le_of_ble_eq_true rfl)) dX5_row_32 ⟨show (0 + dn_4) + 0 ≤ 1200 from (by omega), show (0 + dm_5) + 0 ≤ 600000 from (by omega)⟩) hS (fun z_21 locs hq_20 hS => ?_)
      refine W.eq (g2 := F0 m 35 ls [.int (iz z_21)]) rfl ?_
      try dsimp only at hq_20
      refine lv_istore_n (lv' := [(3, .int (iz z_21)), (0, .ref (o 15)), (1, .int (iz p0)), (2, .int (iz p1))]) hx hb dX5_row_35 rfl hl (by decide) rfl (fun ls hl => ?_)
      refine lv_iload_n hx hb dX5_row_36 rfl (lv_at hl 3 rfl) ?_
      by_cases hsw_22 : p1 = 0
      · skip
        refine ki_is (show iz (p1) = iz 0 by rw [hsw_22]) ?_
        refine lv_tableIn (off := 35) (tgt := 72) hx hb dX5_row_37 (by decide) (by decide) (by decide) (by decide) ?_
        refine lv_iload_n hx hb dX5_row_72 rfl (lv_at hl 0 rfl) ?_
        refine vx_ret ?_
        exact xk_iret (ov := (fun u : (Int) × (Nat → Nat) × (Nat → Nat) × (Nat → Int) × (Nat → Int → Int) × (Nat → Nat → Nat) × (Nat → Nat → Nat) × (Nat → Nat → Int) × (Nat → Nat → Int → Int) => match u with | (q, r', n', z', F', Er', En', Ez', EF') => some (.int (iz q)))) (post := (fun (u : (Int) × (Nat → Nat) × (Nat → Nat) × (Nat → Int) × (Nat → Int → Int) × (Nat → Nat → Nat) × (Nat → Nat → Nat) × (Nat → Nat → Int) × (Nat → Nat → Int → Int)) (dn dm : Nat) => match u with | (q, r', n', z', F', Er', En', Ez', EF') => xR [0, 1, 2, 4, 5, 6, 7, 8, 9, 15, 16] [0, 1, 2, 4, 5, 6, 7, 8, 9] [10] [] N z F En Ez EF n' z' F' En' Ez' EF' ∧ (dn + xg n' ≤ xg n + 0 ∧ dm + xp n' ≤ xp n + 0) ∧ (True))) (ws := (fun u : (Int) × (Nat → Nat) × (Nat → Nat) × (Nat → Int) × (Nat → Int → Int) × (Nat → Nat → Nat) × (Nat → Nat → Nat) × (Nat → Nat → Int) × (Nat → Nat → Int → Int) => match u with | (q, r', n', z', F', Er', En', Ez', EF') => (xU cI cB cE o r' n' z' F' G (Eo 0 0) ++ eP cI N Eo Er' En' Ez' EF'))) (tys := xT cI cB cE) (z := z_21) (z_21, r_6, n_7, z_8, F_9, Er_10, En_11, Ez_12, EF_13) hx hb hr rfl hlocks rfl hP hD hK hS dX5_row_73 (fun dn dm hdn hdm => ⟨⟨hok14, hfr14, hPE14, hef14⟩, ⟨by omega, by omega⟩, trivial⟩) (by omega) (by omega)
      by_cases hsw_23 : p1 = 1
      · skip
        refine ki_is (show iz (p1) = iz 1 by rw [hsw_23]) ?_
        refine lv_tableIn (off := 37) (tgt := 74) hx hb dX5_row_37 (by decide) (by decide) (by decide) (by decide) ?_
        refine lv_aload_n hx hb dX5_row_74 rfl (lv_at hl 1 rfl) ?_
        refine lv_iload_n hx hb dX5_row_75 rfl (lv_at hl 0 rfl) ?_
        have hxz_24 : -2147483648 ≤ z_8 12 ∧ z_8 12 < 2147483648 := hok14.2.2.2.1 12
        have hxG9 : xG N (z_8 12) G Eo := ⟨by omega, by omega, by omega, fun e9 h9 => hN4 e9 (by omega)⟩
        have hP : va_P (dC, dI) kxCl (xU cI cB cE o r_6 n_7 z_8 F_9 G (Eo 0 0) ++ eP cI N Eo Er_10 En_11 Ez_12 EF_13) H := hP
        refine xk_pure (va_runV (As := [.int (iz z_21)]) (rest := []) ⟨hx, hb, hml, hown, hts⟩ (y_known l dC dI cI cB cE o r_6 n_7 z_8 F_9 G N Eo Er_10 En_11 Ez_12 EF_13 z_21 H.size hok14 hxG9 hPE14 (by omega) (by omega)) (cwV 1 hts (kx_gV kq_18_xrows_8 kq_18_xrows_9 kq_18_xrows_10 kq_18_xrows_4 kq_18_xrows_11 rfl) rfl rfl rfl (by decide +kernel) ⟨Nat.le_of_ble_eq_true rfl, Nat.le_of_ble_eq_true rfl⟩) ⟨pPre_blind, va_recv hK hP (ci := 5) (q0 := 0) rfl rfl, pPre_give hP hK hG⟩ rfl rfl hl.1 rfl (lv_room (Nat.le_of_ble_eq_true rfl)) dX5_row_76 ⟨show (0 + dn_4) + 0 ≤ 1200 from (by omega), show (0 + dm_5) + 0 ≤ 600000 from (by omega)⟩) hS (fun z_26 locs hq_25 hS => ?_)
        refine W.eq (g2 := F0 m 79 ls [.ref z_26.toNat]) rfl ?_
        try dsimp only at hq_25
        obtain ⟨j27, hj27, ez27, hje27⟩ := hq_25
        subst ez27
        refine W.eq (g2 := F0 m 79 ls [.ref (Eo j27 0)]) rfl ?_
        have hP := eP_foc hj27 hP
        have hD := eD_foc hj27 hD
        have hez_28 : -2147483648 ≤ Ez_12 j27 7 ∧ Ez_12 j27 7 < 2147483648 := (hPE14 j27 hj27).2.2 7
        refine va_getN (D := (dC, dI)) (ci := 0) (v := .int (iz (Ez_12 j27 7))) (C := RX0) (T := TX0) (N := 12) hx hb hts kt_X0 hown hK hP 29 rfl rfl 0 (by decide) (va_Nw.use rfl (kx_nf hG kq_18_xrows_12)) (fun _ h9 => h9) rfl dX5_row_79 ?_
        have hP := eP_un0 hj27 hP
        have hD := eD_un0 hj27 hD
        refine vx_ret ?_
        exact xk_iret (ov := (fun u : (Int) × (Nat → Nat) × (Nat → Nat) × (Nat → Int) × (Nat → Int → Int) × (Nat → Nat → Nat) × (Nat → Nat → Nat) × (Nat → Nat → Int) × (Nat → Nat → Int → Int) => match u with | (q, r', n', z', F', Er', En', Ez', EF') => some (.int (iz q)))) (post := (fun (u : (Int) × (Nat → Nat) × (Nat → Nat) × (Nat → Int) × (Nat → Int → Int) × (Nat → Nat → Nat) × (Nat → Nat → Nat) × (Nat → Nat → Int) × (Nat → Nat → Int → Int)) (dn dm : Nat) => match u with | (q, r', n', z', F', Er', En', Ez', EF') => xR [0, 1, 2, 4, 5, 6, 7, 8, 9, 15, 16] [0, 1, 2, 4, 5, 6, 7, 8, 9] [10] [] N z F En Ez EF n' z' F' En' Ez' EF' ∧ (dn + xg n' ≤ xg n + 0 ∧ dm + xp n' ≤ xp n + 0) ∧ (True))) (ws := (fun u : (Int) × (Nat → Nat) × (Nat → Nat) × (Nat → Int) × (Nat → Int → Int) × (Nat → Nat → Nat) × (Nat → Nat → Nat) × (Nat → Nat → Int) × (Nat → Nat → Int → Int) => match u with | (q, r', n', z', F', Er', En', Ez', EF') => (xU cI cB cE o r' n' z' F' G (Eo 0 0) ++ eP cI N Eo Er' En' Ez' EF'))) (tys := xT cI cB cE) (z := Ez_12 j27 7) (Ez_12 j27 7, r_6, n_7, z_8, F_9, Er_10, En_11, Ez_12, EF_13) hx hb hr rfl hlocks rfl hP hD hK hS dX5_row_82 (fun dn dm hdn hdm => ⟨⟨hok14, hfr14, hPE14, hef14⟩, ⟨by omega, by omega⟩, trivial⟩) (by omega) (by omega)
      by_cases hsw_29 : p1 = 2
      · skip
        refine ki_is (show iz (p1) = iz 2 by rw [hsw_29]) ?_
        refine lv_tableIn (off := 46) (tgt := 83) hx hb dX5_row_37 (by decide) (by decide) (by decide) (by decide) ?_
        refine lv_aload_n hx hb dX5_row_83 rfl (lv_at hl 1 rfl) ?_
        refine lv_iload_n hx hb dX5_row_84 rfl (lv_at hl 0 rfl) ?_
        have hxz_30 : -2147483648 ≤ z_8 12 ∧ z_8 12 < 2147483648 := hok14.2.2.2.1 12
        have hxG9 : xG N (z_8 12) G Eo := ⟨by omega, by omega, by omega, fun e9 h9 => hN4 e9 (by omega)⟩
        have hP : va_P (dC, dI) kxCl (xU cI cB cE o r_6 n_7 z_8 F_9 G (Eo 0 0) ++ eP cI N Eo Er_10 En_11 Ez_12 EF_13) H := hP
        have hD : va_D A (xU cI cB cE o r_6 n_7 z_8 F_9 G (Eo 0 0) ++ eP cI N Eo Er_10 En_11 Ez_12 EF_13) := hD
        have hFc := xw_free hD hS hA
        refine xk_call (va_runV (As := [.int (iz z_21)]) (rest := []) ⟨hx, hb, hml, hown, hts⟩ (y_findLocators l dC dI cI cB cE o r_6 n_7 z_8 F_9 G N Eo Er_10 En_11 Ez_12 EF_13 z_21 H.size hok14 hxG9 hPE14 (by omega) (by omega)) (cwV 1 hts (kx_gV kq_21_xcalls_29 kq_21_xcalls_30 kq_21_xcalls_31 kq_18_xrows_4 kq_21_xcalls_32 rfl) rfl rfl rfl (by decide +kernel) ⟨Nat.le_of_ble_eq_true rfl, Nat.le_of_ble_eq_true rfl⟩) ⟨kx_blind, va_recv hK hP (ci := 5) (q0 := 0) rfl rfl, kx_give (ws := []) (tys := []) hP hD hK hG hZ hS hFc⟩ rfl rfl hl.1 rfl (lv_room (Nat.le_of_ble_eq_true rfl)) dX5_row_85 ⟨show (0 + dn_4) + 400 ≤ 1200 from (by omega), show (0 + dm_5) + 170000 ≤ 600000 from (by omega)⟩) hS (fun q _ h => hFc q h) hFc (fun u dn_33 dm_34 t H locs ht hvm hq_31 hB hk1 hS => ?_)
        obtain ⟨r_35, n_36, z_37, F_38, Er_39, En_40, Ez_41, EF_42⟩ := u
        obtain ⟨hP, hK1, hD1⟩ := hB
        rw [ht] at hP
        have hD := hD1.weaken (fun _ q _ h => hFc _ h)
        obtain ⟨hR43, hC43, hq_31⟩ := hq_31
        have hok43 := hR43.1
        have hfr43 := hfr14.tr (hR43.2.1.mono (S' := [0, 1, 2, 4, 5, 6, 7, 8, 9, 15, 16]) (T' := [0, 1, 2, 4, 5, 6, 7, 8, 9]) (by decide) (by decide))
        have hPE43 := hR43.2.2.1
        have hef43 := hef14.tr (hR43.2.2.2.mono (S' := [10]) (T' := []) (by decide) (by decide))
        have hz43 : z_37 12 = (z_8 12) := hR43.2.1.1 12 (by decide)
        refine W.eq (g2 := F0 m 88 ls []) rfl ?_
        try dsimp only at hq_31
        refine lv_aload_n hx hb dX5_row_88 rfl (lv_at hl 1 rfl) ?_
        refine va_get (D := (dC, dI)) (ci := 5) (v := .ref (o 14)) (C := RX5) (T := TX5) (N := 16) hx hb hts kt_X5 hown hK hP 0 rfl rfl 9 (by decide) (kx_word hG kq_19_xouts_0 rfl) (fun _ h9 => h9) rfl dX5_row_89 ?_
        have hxi_44 : 0 ≤ z_37 7 ∧ z_37 7 ≤ ((n_36 7 : Nat) : Int) ∧ ((n_36 7 : Nat) : Int) ≤ 1600 := hok43.1 7 (by decide)
        have hxi_45 : 0 ≤ z_37 8 ∧ z_37 8 ≤ ((n_36 8 : Nat) : Int) ∧ ((n_36 8 : Nat) : Int) ≤ 1600 := hok43.1 8 (by decide)
        have hxi_46 : 0 ≤ z_37 9 ∧ z_37 9 ≤ ((n_36 9 : Nat) : Int) ∧ ((n_36 9 : Nat) : Int) ≤ 1600 := hok43.1 9 (by decide)
        have hPc := hP.sub (ws' := (sU cI 1600 (o 14) (o 7) (o 8) (o 9) (r_35 7) (r_35 8) (r_35 9) (n_36 7) (n_36 8) (n_36 9) (z_37 7) (z_37 8) (z_37 9) (F_38 7) (F_38 8) (F_38 9))) [17, 18, 19, 20, 21, 22, 23] rfl
        refine xk_pure (va_runV (As := []) (rest := []) ⟨hx, hb, hml, hown, hts⟩ (x_ssize l dC dI cI cB cE 1600 (o 14) (o 7) (o 8) (o 9) (r_35 7) (r_35 8) (r_35 9) (n_36 7) (n_36 8) (n_36 9) (z_37 7) (z_37 8) (z_37 9) (F_38 7) (F_38 8) (F_38 9)  H.size ) (cwV 0 hts (kx_gV kq_19_xouts_3 kq_15_xspan_51 kq_15_xspan_52 kq_15_xspan_53 kq_15_xspan_54 rfl) rfl rfl rfl (by decide +kernel) ⟨Nat.le_of_ble_eq_true rfl, Nat.le_of_ble_eq_true rfl⟩) ⟨pPre_blind, va_recv hK hPc (ci := 3) (q0 := 0) rfl rfl, pPre_give hPc hK hG⟩ rfl rfl hl.1 rfl (lv_room (Nat.le_of_ble_eq_true rfl)) dX5_row_92 ⟨show ((0 + dn_4) + dn_33) + 0 ≤ 1200 from (by omega), show ((0 + dm_5) + dm_34) + 0 ≤ 600000 from (by omega)⟩) hS (fun z_48 locs hq_47 hS => ?_)
        refine W.eq (g2 := F0 m 95 ls [.int (iz z_48)]) rfl ?_
        try dsimp only at hq_47
        have hq_47 := hq_47.symm
        subst hq_47
        refine vx_ret ?_
        exact xk_iret (ov := (fun u : (Int) × (Nat → Nat) × (Nat → Nat) × (Nat → Int) × (Nat → Int → Int) × (Nat → Nat → Nat) × (Nat → Nat → Nat) × (Nat → Nat → Int) × (Nat → Nat → Int → Int) => match u with | (q, r', n', z', F', Er', En', Ez', EF') => some (.int (iz q)))) (post := (fun (u : (Int) × (Nat → Nat) × (Nat → Nat) × (Nat → Int) × (Nat → Int → Int) × (Nat → Nat → Nat) × (Nat → Nat → Nat) × (Nat → Nat → Int) × (Nat → Nat → Int → Int)) (dn dm : Nat) => match u with | (q, r', n', z', F', Er', En', Ez', EF') => xR [0, 1, 2, 4, 5, 6, 7, 8, 9, 15, 16] [0, 1, 2, 4, 5, 6, 7, 8, 9] [10] [] N z F En Ez EF n' z' F' En' Ez' EF' ∧ (dn + xg n' ≤ xg n + 0 ∧ dm + xp n' ≤ xp n + 0) ∧ (True))) (ws := (fun u : (Int) × (Nat → Nat) × (Nat → Nat) × (Nat → Int) × (Nat → Int → Int) × (Nat → Nat → Nat) × (Nat → Nat → Nat) × (Nat → Nat → Int) × (Nat → Nat → Int → Int) => match u with | (q, r', n', z', F', Er', En', Ez', EF') => (xU cI cB cE o r' n' z' F' G (Eo 0 0) ++ eP cI N Eo Er' En' Ez' EF'))) (tys := xT cI cB cE) (z := z_37 7) (z_37 7, r_35, n_36, z_37, F_38, Er_39, En_40, Ez_41, EF_42) hx hb hr rfl hlocks rfl hP hD hK hS dX5_row_95 (fun dn dm hdn hdm => ⟨⟨hok43, hfr43, hPE43, hef43⟩, ⟨by omega, by omega⟩, trivial⟩) (by omega) (by omega)
      by_cases hsw_49 : p1 = 3
      · skip
        refine ki_is (show iz (p1) = iz 3 by rw [hsw_49]) ?_
        refine lv_tableIn (off := 59) (tgt := 96) hx hb dX5_row_37 (by decide) (by decide) (by decide) (by decide) ?_
        refine lv_aload_n hx hb dX5_row_96 rfl (lv_at hl 1 rfl) ?_
        refine lv_iload_n hx hb dX5_row_97 rfl (lv_at hl 0 rfl) ?_
        have hxz_50 : -2147483648 ≤ z_8 12 ∧ z_8 12 < 2147483648 := hok14.2.2.2.1 12
        have hxG9 : xG N (z_8 12) G Eo := ⟨by omega, by omega, by omega, fun e9 h9 => hN4 e9 (by omega)⟩
        have hP : va_P (dC, dI) kxCl (xU cI cB cE o r_6 n_7 z_8 F_9 G (Eo 0 0) ++ eP cI N Eo Er_10 En_11 Ez_12 EF_13) H := hP
        have hD : va_D A (xU cI cB cE o r_6 n_7 z_8 F_9 G (Eo 0 0) ++ eP cI N Eo Er_10 En_11 Ez_12 EF_13) := hD
        have hFc := xw_free hD hS hA
        refine xk_call (va_runV (As := [.int (iz z_21)]) (rest := []) ⟨hx, hb, hml, hown, hts⟩ (y_findSeen l dC dI cI cB cE o r_6 n_7 z_8 F_9 G N Eo Er_10 En_11 Ez_12 EF_13 z_21 H.size hok14 hxG9 hPE14 (by omega) (by omega)) (cwV 1 hts (kx_gV kq_21_xcalls_33 kq_21_xcalls_34 kq_21_xcalls_35 kq_18_xrows_4 kq_21_xcalls_36 rfl) rfl rfl rfl (by decide +kernel) ⟨Nat.le_of_ble_eq_true rfl, Nat.le_of_ble_eq_true rfl⟩) ⟨kx_blind, va_recv hK hP (ci := 5) (q0 := 0) rfl rfl, kx_give (ws := []) (tys := []) hP hD hK hG hZ hS hFc⟩ rfl rfl hl.1 rfl (lv_room (Nat.le_of_ble_eq_true rfl)) dX5_row_98 ⟨show (0 + dn_4) + 260 ≤ 1200 from (by omega), show (0 + dm_5) + 110000 ≤ 600000 from (by omega)⟩) hS (fun q _ h => hFc q h) hFc (fun u dn_53 dm_54 t H locs ht hvm hq_51 hB hk1 hS => ?_)
        obtain ⟨r_55, n_56, z_57, F_58, Er_59, En_60, Ez_61, EF_62⟩ := u
        obtain ⟨hP, hK1, hD1⟩ := hB
        rw [ht] at hP
        have hD := hD1.weaken (fun _ q _ h => hFc _ h)
        obtain ⟨hR63, hC63, hq_51⟩ := hq_51
        have hok63 := hR63.1
        have hfr63 := hfr14.tr (hR63.2.1.mono (S' := [0, 1, 2, 4, 5, 6, 7, 8, 9, 15, 16]) (T' := [0, 1, 2, 4, 5, 6, 7, 8, 9]) (by decide) (by decide))
        have hPE63 := hR63.2.2.1
        have hef63 := hef14.tr (hR63.2.2.2.mono (S' := [10]) (T' := []) (by decide) (by decide))
        have hz63 : z_57 12 = (z_8 12) := hR63.2.1.1 12 (by decide)
        refine W.eq (g2 := F0 m 101 ls []) rfl ?_
        try dsimp only at hq_51
        refine lv_aload_n hx hb dX5_row_101 rfl (lv_at hl 1 rfl) ?_
        refine va_get (D := (dC, dI)) (ci := 5) (v := .ref (o 2)) (C := RX5) (T := TX5) (N := 16) hx hb hts kt_X5 hown hK hP 0 rfl rfl 11 (by decide) (kx_word hG kq_19_xouts_27 rfl) (fun _ h9 => h9) rfl dX5_row_102 ?_
        have hxi_64 : 0 ≤ z_57 2 ∧ z_57 2 ≤ ((n_56 2 : Nat) : Int) ∧ ((n_56 2 : Nat) : Int) ≤ 80 := hok63.1 2 (by decide)
        have hPc := hP.sub (ws' := (iU cI 80 (o 2) (r_55 2) (n_56 2) (z_57 2) (F_58 2))) [6, 7] rfl
        refine xk_pure (va_runV (As := []) (rest := []) ⟨hx, hb, hml, hown, hts⟩ (x_size l dC dI cI cB cE 80 (o 2) (r_55 2) (n_56 2) (z_57 2) (F_58 2)  H.size ) (cwV 0 hts (kx_gV kq_18_xrows_40 kq_15_xspan_10 kq_15_xspan_11 kq_13_xints_6 kq_15_xspan_12 rfl) rfl rfl rfl (by decide +kernel) ⟨Nat.le_of_ble_eq_true rfl, Nat.le_of_ble_eq_true rfl⟩) ⟨pPre_blind, va_recv hK hPc (ci := 1) (q0 := 0) rfl rfl, pPre_give hPc hK hG⟩ rfl rfl hl.1 rfl (lv_room (Nat.le_of_ble_eq_true rfl)) dX5_row_105 ⟨show ((0 + dn_4) + dn_53) + 0 ≤ 1200 from (by omega), show ((0 + dm_5) + dm_54) + 0 ≤ 600000 from (by omega)⟩) hS (fun z_66 locs hq_65 hS => ?_)
        refine W.eq (g2 := F0 m 108 ls [.int (iz z_66)]) rfl ?_
        try dsimp only at hq_65
        have hq_65 := hq_65.symm
        subst hq_65
        refine vx_ret ?_
        exact xk_iret (ov := (fun u : (Int) × (Nat → Nat) × (Nat → Nat) × (Nat → Int) × (Nat → Int → Int) × (Nat → Nat → Nat) × (Nat → Nat → Nat) × (Nat → Nat → Int) × (Nat → Nat → Int → Int) => match u with | (q, r', n', z', F', Er', En', Ez', EF') => some (.int (iz q)))) (post := (fun (u : (Int) × (Nat → Nat) × (Nat → Nat) × (Nat → Int) × (Nat → Int → Int) × (Nat → Nat → Nat) × (Nat → Nat → Nat) × (Nat → Nat → Int) × (Nat → Nat → Int → Int)) (dn dm : Nat) => match u with | (q, r', n', z', F', Er', En', Ez', EF') => xR [0, 1, 2, 4, 5, 6, 7, 8, 9, 15, 16] [0, 1, 2, 4, 5, 6, 7, 8, 9] [10] [] N z F En Ez EF n' z' F' En' Ez' EF' ∧ (dn + xg n' ≤ xg n + 0 ∧ dm + xp n' ≤ xp n + 0) ∧ (True))) (ws := (fun u : (Int) × (Nat → Nat) × (Nat → Nat) × (Nat → Int) × (Nat → Int → Int) × (Nat → Nat → Nat) × (Nat → Nat → Nat) × (Nat → Nat → Int) × (Nat → Nat → Int → Int) => match u with | (q, r', n', z', F', Er', En', Ez', EF') => (xU cI cB cE o r' n' z' F' G (Eo 0 0) ++ eP cI N Eo Er' En' Ez' EF'))) (tys := xT cI cB cE) (z := z_57 2) (z_57 2, r_55, n_56, z_57, F_58, Er_59, En_60, Ez_61, EF_62) hx hb hr rfl hlocks rfl hP hD hK hS dX5_row_108 (fun dn dm hdn hdm => ⟨⟨hok63, hfr63, hPE63, hef63⟩, ⟨by omega, by omega⟩, trivial⟩) (by omega) (by omega)
      by_cases hsw_67 : p1 = 4
      · skip
        refine ki_is (show iz (p1) = iz 4 by rw [hsw_67]) ?_
        refine lv_tableIn (off := 72) (tgt := 109) hx hb dX5_row_37 (by decide) (by decide) (by decide) (by decide) ?_
        refine lv_aload_n hx hb dX5_row_109 rfl (lv_at hl 1 rfl) ?_
        refine lv_iload_n hx hb dX5_row_110 rfl (lv_at hl 0 rfl) ?_
        have hxz_68 : -2147483648 ≤ z_8 12 ∧ z_8 12 < 2147483648 := hok14.2.2.2.1 12
        have hxG9 : xG N (z_8 12) G Eo := ⟨by omega, by omega, by omega, fun e9 h9 => hN4 e9 (by omega)⟩
        have hP : va_P (dC, dI) kxCl (xU cI cB cE o r_6 n_7 z_8 F_9 G (Eo 0 0) ++ eP cI N Eo Er_10 En_11 Ez_12 EF_13) H := hP
        refine xk_pure (va_runV (As := [.int (iz z_21)]) (rest := []) ⟨hx, hb, hml, hown, hts⟩ (y_groupOf l dC dI cI cB cE o r_6 n_7 z_8 F_9 G N Eo Er_10 En_11 Ez_12 EF_13 z_21 H.size hok14 hxG9 hPE14 (by omega) (by omega)) (cwV 1 hts (kx_gV kq_21_xcalls_37 kq_21_xcalls_38 kq_21_xcalls_39 kq_18_xrows_4 kq_21_xcalls_40 rfl) rfl rfl rfl (by decide +kernel) ⟨Nat.le_of_ble_eq_true rfl, Nat.le_of_ble_eq_true rfl⟩) ⟨pPre_blind, va_recv hK hP (ci := 5) (q0 := 0) rfl rfl, pPre_give hP hK hG⟩ rfl rfl hl.1 rfl (lv_room (Nat.le_of_ble_eq_true rfl)) dX5_row_111 ⟨show (0 + dn_4) + 0 ≤ 1200 from (by omega), show (0 + dm_5) + 0 ≤ 600000 from (by omega)⟩) hS (fun z_70 locs hq_69 hS => ?_)
        refine W.eq (g2 := F0 m 114 ls [.int (iz z_70)]) rfl ?_
        try dsimp only at hq_69
        refine vx_ret ?_
        exact xk_iret (ov := (fun u : (Int) × (Nat → Nat) × (Nat → Nat) × (Nat → Int) × (Nat → Int → Int) × (Nat → Nat → Nat) × (Nat → Nat → Nat) × (Nat → Nat → Int) × (Nat → Nat → Int → Int) => match u with | (q, r', n', z', F', Er', En', Ez', EF') => some (.int (iz q)))) (post := (fun (u : (Int) × (Nat → Nat) × (Nat → Nat) × (Nat → Int) × (Nat → Int → Int) × (Nat → Nat → Nat) × (Nat → Nat → Nat) × (Nat → Nat → Int) × (Nat → Nat → Int → Int)) (dn dm : Nat) => match u with | (q, r', n', z', F', Er', En', Ez', EF') => xR [0, 1, 2, 4, 5, 6, 7, 8, 9, 15, 16] [0, 1, 2, 4, 5, 6, 7, 8, 9] [10] [] N z F En Ez EF n' z' F' En' Ez' EF' ∧ (dn + xg n' ≤ xg n + 0 ∧ dm + xp n' ≤ xp n + 0) ∧ (True))) (ws := (fun u : (Int) × (Nat → Nat) × (Nat → Nat) × (Nat → Int) × (Nat → Int → Int) × (Nat → Nat → Nat) × (Nat → Nat → Nat) × (Nat → Nat → Int) × (Nat → Nat → Int → Int) => match u with | (q, r', n', z', F', Er', En', Ez', EF') => (xU cI cB cE o r' n' z' F' G (Eo 0 0) ++ eP cI N Eo Er' En' Ez' EF'))) (tys := xT cI cB cE) (z := z_70) (z_70, r_6, n_7, z_8, F_9, Er_10, En_11, Ez_12, EF_13) hx hb hr rfl hlocks rfl hP hD hK hS dX5_row_114 (fun dn dm hdn hdm => ⟨⟨hok14, hfr14, hPE14, hef14⟩, ⟨by omega, by omega⟩, trivial⟩) (by omega) (by omega)
      refine lv_tableOut (tgt := 115) hx hb dX5_row_37 (by rw [iz_toInt (by omega) (by omega)]; omega) (by decide) ?_
      exact ky_thr_IOB hx hb hlf hown hG hZ hS (hl.1.trans hml.symm) dX5_row_115 dX5_row_118 dX5_row_119 dX5_row_122 htab (Nat.le_of_ble_eq_true rfl) (Nat.le_of_ble_eq_true rfl) (show (0 + dn_4) + 1 ≤ 1200 from (by omega)) (show (0 + dm_5) + 6 ≤ 600000 from (by omega)) hlocks (⟨rfl, by first | trivial | omega⟩) (fun t hvm h1 h2 => ⟨(r_6, n_7, z_8, F_9, Er_10, En_11, Ez_12, EF_13), ⟨hok14, hfr14, hPE14, hef14⟩, hP.kept (fun k q hk => h2 q.1 (hP k q hk).lt), va_K.moved hvm hK, hD⟩) hS.2.2 (by omega) (by omega) (by omega) (by omega)
    · skip
      exact ky_thr_IOB hx hb hlf hown hG hZ hS (hl.1.trans hml.symm) dX5_row_19 dX5_row_22 dX5_row_23 dX5_row_26 htab (Nat.le_of_ble_eq_true rfl) (Nat.le_of_ble_eq_true rfl) (show (0 + dn_4) + 1 ≤ 1200 from (by omega)) (show (0 + dm_5) + 6 ≤ 600000 from (by omega)) hlocks (⟨rfl, by first | trivial | omega⟩) (fun t hvm h1 h2 => ⟨(r_6, n_7, z_8, F_9, Er_10, En_11, Ez_12, EF_13), ⟨hok14, hfr14, hPE14, hef14⟩, hP.kept (fun k q hk => h2 q.1 (hP k q hk).lt), va_K.moved hvm hK, hD⟩) hS.2.2 (by omega) (by omega) (by omega) (by omega)
set_option maxHeartbeats 4000000 in
set_option maxRecDepth 100000 in
theorem y_locator (l : Launch) (hlf : l.stackTraces = false) (dC : Nat → ClassId) (dI : Nat → Nat → Nat) (cI cB cE : ClassId) (o r n : Nat → Nat) (z : Nat → Int) (F : Nat → Int → Int) (G : Nat → Option Nat) (N : Nat) (Eo Er En : Nat → Nat → Nat) (Ez : Nat → Nat → Int) (EF : Nat → Nat → Int → Int) (p0 : Int) (p1 : Int) (p2 : Int) (sz : Nat) (hok : xOk n z F) (hxG : xG N (z 12) G Eo) (hPE : eA N En Ez EF) (hp01 : -2147483648 ≤ p0) (hp02 : p0 < 2147483648) (hp11 : -2147483648 ≤ p1) (hp12 : p1 < 2147483648) (hp21 : -2147483648 ≤ p2) (hp22 : p2 < 2147483648) : vx_Met l yX5_locator [.code yX5_locator cX5_locator 5 (some .int)] ({ frames := 7, cells := 1200, slots := 600000, locals := 196 }) (va_Pc [.ref (o 15), .int (iz p0), .int (iz p1), .int (iz p2)] (kx_Pre dC dI (xU cI cB cE o r n z F G (Eo 0 0) ++ eP cI N Eo Er En Ez EF) (xT cI cB cE) sz)) (xQ (fun u : (Int) × (Nat → Nat) × (Nat → Nat) × (Nat → Int) × (Nat → Int → Int) × (Nat → Nat → Nat) × (Nat → Nat → Nat) × (Nat → Nat → Int) × (Nat → Nat → Int → Int) => match u with | (q, r', n', z', F', Er', En', Ez', EF') => some (.int (iz q))) (fun (u : (Int) × (Nat → Nat) × (Nat → Nat) × (Nat → Int) × (Nat → Int → Int) × (Nat → Nat → Nat) × (Nat → Nat → Nat) × (Nat → Nat → Int) × (Nat → Nat → Int → Int)) (dn dm : Nat) => match u with | (q, r', n', z', F', Er', En', Ez', EF') => xR [0, 1, 2, 4, 5, 6, 7, 8, 9, 15, 16] [0, 1, 2, 4, 5, 6, 7, 8, 9] [10] [] N z F En Ez EF n' z' F' En' Ez' EF' ∧ (dn + xg n' ≤ xg n + 0 ∧ dm + xp n' ≤ xp n + 0) ∧ (True)) (fun u t => kx_At dC dI (va_A (xU cI cB cE o r n z F G (Eo 0 0) ++ eP cI N Eo Er En Ez EF) sz) ((fun u : (Int) × (Nat → Nat) × (Nat → Nat) × (Nat → Int) × (Nat → Int → Int) × (Nat → Nat → Nat) × (Nat → Nat → Nat) × (Nat → Nat → Int) × (Nat → Nat → Int → Int) => match u with | (q, r', n', z', F', Er', En', Ez', EF') => (xU cI cB cE o r' n' z' F' G (Eo 0 0) ++ eP cI N Eo Er' En' Ez' EF')) u) (xT cI cB cE) t) (va_A (xU cI cB cE o r n z F G (Eo 0 0) ++ eP cI N Eo Er En Ez EF) sz)) (yX (fun E => (E = "java/lang/IndexOutOfBoundsException" ∧ (True))) 95 41800 (fun t => ∃ u : (Nat → Nat) × (Nat → Nat) × (Nat → Int) × (Nat → Int → Int) × (Nat → Nat → Nat) × (Nat → Nat → Nat) × (Nat → Nat → Int) × (Nat → Nat → Int → Int), match u with | (r', n', z', F', Er', En', Ez', EF') => xR [0, 1, 2, 4, 5, 6, 7, 8, 9, 15, 16] [0, 1, 2, 4, 5, 6, 7, 8, 9] [10] [] N z F En Ez EF n' z' F' En' Ez' EF' ∧ kx_At dC dI (va_A (xU cI cB cE o r n z F G (Eo 0 0) ++ eP cI N Eo Er En Ez EF) sz) (xU cI cB cE o r' n' z' F' G (Eo 0 0) ++ eP cI N Eo Er' En' Ez' EF') (xT cI cB cE) t) (va_A (xU cI cB cE o r n z F G (Eo 0 0) ++ eP cI N Eo Er En Ez EF) sz)) 1200 600000 (va_A (xU cI cB cE o r n z F G (Eo 0 0) ++ eP cI N Eo Er En Ez EF) sz) := by
  refine vx_ofW (cc := cX5_locator) (maxL := 5) (ret := (some .int)) (by decide) rfl ?_
  intro p e s m args below meth c s₁ B hml htab hv
  obtain ⟨rfl, hsz, hP, hK, hD0, hG, hZ⟩ := hv
  have hx := B.exec
  have hb := B.bytes
  have hr := B.returns
  have hts := kx_hts (a := ([.ref (o 15), .int (iz p0), .int (iz p1), .int (iz p2)] : List Value).toArray) hG
  have hown : s.vm.findClass RX5 = some m.cls := findClass_of_methodNamed B.named
  have hlocks := B.notSynchronized
  subst hsz
  have hD := hD0.self (sz := s.heap.size)
  generalize hAe : va_A (xU cI cB cE o r n z F G (Eo 0 0) ++ eP cI N Eo Er En Ez EF) s.heap.size = A at hD hZ ⊢
  have hA : ∀ q : Nat, s.heap.size ≤ q → A q := fun q h => by rw [← hAe]; exact Or.inr h
  have hS : va_S A s.heap s.heap [] := va_S.rf
  have hl := lv_entry ([.ref (o 15), .int (iz p0), .int (iz p1), .int (iz p2)]) (n := 5) (Nat.le_of_ble_eq_true rfl)
  rw [lg_entry_eq]
  generalize (lg_sl ([.ref (o 15), .int (iz p0), .int (iz p1), .int (iz p2)]) ++ List.replicate (5 - (lg_sl ([.ref (o 15), .int (iz p0), .int (iz p1), .int (iz p2)])).length) Slot.unset).toArray = ls at hl ⊢
  obtain ⟨hN1, hN2, hN3, hN4⟩ := hxG
  have hef : eFr [10] [] En Ez EF En Ez EF := eFr.rf
  have hfr : xFr [0, 1, 2, 4, 5, 6, 7, 8, 9, 15, 16] [0, 1, 2, 4, 5, 6, 7, 8, 9] z F z F := xFr.rf
  have hxgl := xg_le n
  have hxpl := xp_le n
  have hl : lv_has ls 5 [(0, .ref (o 15)), (1, .int (iz p0)), (2, .int (iz p1)), (3, .int (iz p2))] := hl
  refine lv_aload_n hx hb dX5_locator_0 rfl (lv_at hl 0 rfl) ?_
  have hxz_1 : -2147483648 ≤ z 12 ∧ z 12 < 2147483648 := hok.2.2.2.1 12
  have hxG9 : xG N (z 12) G Eo := ⟨by omega, by omega, by omega, fun e9 h9 => hN4 e9 (by omega)⟩
  have hP : va_P (dC, dI) kxCl (xU cI cB cE o r n z F G (Eo 0 0) ++ eP cI N Eo Er En Ez EF) s.heap := hP
  have hD : va_D A (xU cI cB cE o r n z F G (Eo 0 0) ++ eP cI N Eo Er En Ez EF) := hD
  have hFc := xw_free hD hS hA
  refine xk_call (va_runV (As := []) (rest := []) ⟨hx, hb, hml, hown, hts⟩ (y_findRows l dC dI cI cB cE o r n z F G N Eo Er En Ez EF  s.heap.size hok hxG9 hPE ) (cwV 0 hts (kx_gV kq_21_xcalls_25 kq_21_xcalls_26 kq_21_xcalls_27 kq_18_xrows_4 kq_21_xcalls_28 rfl) rfl rfl rfl (by decide +kernel) ⟨Nat.le_of_ble_eq_true rfl, Nat.le_of_ble_eq_true rfl⟩) ⟨kx_blind, va_recv hK hP (ci := 5) (q0 := 0) rfl rfl, kx_give (ws := []) (tys := []) hP hD hK hG hZ hS hFc⟩ rfl rfl hl.1 rfl (lv_room (Nat.le_of_ble_eq_true rfl)) dX5_locator_1 ⟨show 0 + 600 ≤ 1200 from (by omega), show 0 + 300000 ≤ 600000 from (by omega)⟩) hS (fun q _ h => hFc q h) hFc (fun u dn_4 dm_5 t H locs ht hvm hq_2 hB hk1 hS => ?_)
  obtain ⟨r_6, n_7, z_8, F_9, Er_10, En_11, Ez_12, EF_13⟩ := u
  obtain ⟨hP, hK1, hD1⟩ := hB
  rw [ht] at hP
  have hD := hD1.weaken (fun _ q _ h => hFc _ h)
  obtain ⟨hR14, hC14, hq_2⟩ := hq_2
  have hok14 := hR14.1
  have hfr14 := hfr.tr (hR14.2.1.mono (S' := [0, 1, 2, 4, 5, 6, 7, 8, 9, 15, 16]) (T' := [0, 1, 2, 4, 5, 6, 7, 8, 9]) (by decide) (by decide))
  have hPE14 := hR14.2.2.1
  have hef14 := hef.tr (hR14.2.2.2.mono (S' := [10]) (T' := []) (by decide) (by decide))
  have hz14 : z_8 12 = (z 12) := hR14.2.1.1 12 (by decide)
  refine W.eq (g2 := F0 m 4 ls []) rfl ?_
  try dsimp only at hq_2
  refine lv_iload_n hx hb dX5_locator_4 rfl (lv_at hl 1 rfl) ?_
  refine ki_if_lt (tgt := 19) hx hb dX5_locator_5 (by decide) (by omega) (by omega) (fun c_15 => ?_) (fun c_15 => ?_)
  · skip
    exact ky_thr_IOB hx hb hlf hown hG hZ hS (hl.1.trans hml.symm) dX5_locator_19 dX5_locator_22 dX5_locator_23 dX5_locator_26 htab (Nat.le_of_ble_eq_true rfl) (Nat.le_of_ble_eq_true rfl) (show (0 + dn_4) + 1 ≤ 1200 from (by omega)) (show (0 + dm_5) + 6 ≤ 600000 from (by omega)) hlocks (⟨rfl, by first | trivial | omega⟩) (fun t hvm h1 h2 => ⟨(r_6, n_7, z_8, F_9, Er_10, En_11, Ez_12, EF_13), ⟨hok14, hfr14, hPE14, hef14⟩, hP.kept (fun k q hk => h2 q.1 (hP k q hk).lt), va_K.moved hvm hK, hD⟩) hS.2.2 (by omega) (by omega) (by omega) (by omega)
  · skip
    refine lv_iload_n hx hb dX5_locator_8 rfl (lv_at hl 1 rfl) ?_
    refine lv_aload_n hx hb dX5_locator_9 rfl (lv_at hl 0 rfl) ?_
    refine va_get (D := (dC, dI)) (ci := 5) (v := .ref (o 1)) (C := RX5) (T := TX5) (N := 16) hx hb hts kt_X5 hown hK hP 0 rfl rfl 6 (by decide) (kx_word hG kq_18_xrows_47 rfl) (fun _ h9 => h9) rfl dX5_locator_10 ?_
    have hxi_16 : 0 ≤ z_8 1 ∧ z_8 1 ≤ ((n_7 1 : Nat) : Int) ∧ ((n_7 1 : Nat) : Int) ≤ 80 := hok14.1 1 (by decide)
    have hPc := hP.sub (ws' := (iU cI 80 (o 1) (r_6 1) (n_7 1) (z_8 1) (F_9 1))) [4, 5] rfl
    refine xk_pure (va_runV (As := []) (rest := [.int (iz p0)]) ⟨hx, hb, hml, hown, hts⟩ (x_size l dC dI cI cB cE 80 (o 1) (r_6 1) (n_7 1) (z_8 1) (F_9 1)  H.size ) (cwV 0 hts (kx_gV kq_18_xrows_40 kq_15_xspan_10 kq_15_xspan_11 kq_13_xints_6 kq_15_xspan_12 rfl) rfl rfl rfl (by decide +kernel) ⟨Nat.le_of_ble_eq_true rfl, Nat.le_of_ble_eq_true rfl⟩) ⟨pPre_blind, va_recv hK hPc (ci := 1) (q0 := 0) rfl rfl, pPre_give hPc hK hG⟩ rfl rfl hl.1 rfl (lv_room (Nat.le_of_ble_eq_true rfl)) dX5_locator_13 ⟨show (0 + dn_4) + 0 ≤ 1200 from (by omega), show (0 + dm_5) + 0 ≤ 600000 from (by omega)⟩) hS (fun z_18 locs hq_17 hS => ?_)
    refine W.eq (g2 := F0 m 16 ls [.int (iz z_18), .int (iz p0)]) rfl ?_
    try dsimp only at hq_17
    have hq_17 := hq_17.symm
    subst hq_17
    refine ki_icmp_lt (tgt := 27) hx hb dX5_locator_16 (by decide) (by omega) (by omega) (by omega) (by omega) (fun c_19 => ?_) (fun c_19 => ?_)
    · skip
      refine lv_aload_n hx hb dX5_locator_27 rfl (lv_at hl 0 rfl) ?_
      refine lv_aload_n hx hb dX5_locator_28 rfl (lv_at hl 0 rfl) ?_
      refine va_get (D := (dC, dI)) (ci := 5) (v := .ref (o 1)) (C := RX5) (T := TX5) (N := 16) hx hb hts kt_X5 hown hK hP 0 rfl rfl 6 (by decide) (kx_word hG kq_18_xrows_47 rfl) (fun _ h9 => h9) rfl dX5_locator_29 ?_
      refine lv_iload_n hx hb dX5_locator_32 rfl (lv_at hl 1 rfl) ?_
      have hPc := hP.sub (ws' := (iU cI 80 (o 1) (r_6 1) (n_7 1) (z_8 1) (F_9 1))) [4, 5] rfl
      refine xk_pure (va_runV (As := [.int (iz p0)]) (rest := [.ref (o 15)]) ⟨hx, hb, hml, hown, hts⟩ (x_get l dC dI cI cB cE 80 (o 1) (r_6 1) (n_7 1) (z_8 1) (F_9 1) p0 H.size (by omega) (hok14.2.2.1 1) (by omega) (by omega)) (cwV 1 hts (kx_gV kq_18_xrows_41 kq_13_xints_4 kq_13_xints_5 kq_13_xints_6 kq_13_xints_7 rfl) rfl rfl rfl (by decide +kernel) ⟨Nat.le_of_ble_eq_true rfl, Nat.le_of_ble_eq_true rfl⟩) ⟨pPre_blind, va_recv hK hPc (ci := 1) (q0 := 0) rfl rfl, pPre_give hPc hK hG⟩ rfl rfl hl.1 rfl (lv_room (Nat.le_of_ble_eq_true rfl)) dX5_locator_33 ⟨show (0 + dn_4) + 0 ≤ 1200 from (by omega), show (0 + dm_5) + 0 ≤ 600000 from (by omega)⟩) hS (fun z_21 locs hq_20 hS => ?_)
      refine W.eq (g2 := F0 m 36 ls [.int (iz z_21), .ref (o 15)]) rfl ?_
      try dsimp only at hq_20
      have hxz_22 : -2147483648 ≤ z_8 12 ∧ z_8 12 < 2147483648 := hok14.2.2.2.1 12
      have hxG9 : xG N (z_8 12) G Eo := ⟨by omega, by omega, by omega, fun e9 h9 => hN4 e9 (by omega)⟩
      have hP : va_P (dC, dI) kxCl (xU cI cB cE o r_6 n_7 z_8 F_9 G (Eo 0 0) ++ eP cI N Eo Er_10 En_11 Ez_12 EF_13) H := hP
      have hD : va_D A (xU cI cB cE o r_6 n_7 z_8 F_9 G (Eo 0 0) ++ eP cI N Eo Er_10 En_11 Ez_12 EF_13) := hD
      have hFc := xw_free hD hS hA
      refine xk_call (va_runV (As := [.int (iz z_21)]) (rest := []) ⟨hx, hb, hml, hown, hts⟩ (y_findLocators l dC dI cI cB cE o r_6 n_7 z_8 F_9 G N Eo Er_10 En_11 Ez_12 EF_13 z_21 H.size hok14 hxG9 hPE14 (by omega) (by omega)) (cwV 1 hts (kx_gV kq_21_xcalls_29 kq_21_xcalls_30 kq_21_xcalls_31 kq_18_xrows_4 kq_21_xcalls_32 rfl) rfl rfl rfl (by decide +kernel) ⟨Nat.le_of_ble_eq_true rfl, Nat.le_of_ble_eq_true rfl⟩) ⟨kx_blind, va_recv hK hP (ci := 5) (q0 := 0) rfl rfl, kx_give (ws := []) (tys := []) hP hD hK hG hZ hS hFc⟩ rfl rfl hl.1 rfl (lv_room (Nat.le_of_ble_eq_true rfl)) dX5_locator_36 ⟨show (0 + dn_4) + 400 ≤ 1200 from (by omega), show (0 + dm_5) + 170000 ≤ 600000 from (by omega)⟩) hS (fun q _ h => hFc q h) hFc (fun u dn_25 dm_26 t H locs ht hvm hq_23 hB hk1 hS => ?_)
      obtain ⟨r_27, n_28, z_29, F_30, Er_31, En_32, Ez_33, EF_34⟩ := u
      obtain ⟨hP, hK1, hD1⟩ := hB
      rw [ht] at hP
      have hD := hD1.weaken (fun _ q _ h => hFc _ h)
      obtain ⟨hR35, hC35, hq_23⟩ := hq_23
      have hok35 := hR35.1
      have hfr35 := hfr14.tr (hR35.2.1.mono (S' := [0, 1, 2, 4, 5, 6, 7, 8, 9, 15, 16]) (T' := [0, 1, 2, 4, 5, 6, 7, 8, 9]) (by decide) (by decide))
      have hPE35 := hR35.2.2.1
      have hef35 := hef14.tr (hR35.2.2.2.mono (S' := [10]) (T' := []) (by decide) (by decide))
      have hz35 : z_29 12 = (z_8 12) := hR35.2.1.1 12 (by decide)
      refine W.eq (g2 := F0 m 39 ls []) rfl ?_
      try dsimp only at hq_23
      refine lv_iload_n hx hb dX5_locator_39 rfl (lv_at hl 2 rfl) ?_
      refine ki_if_lt (tgt := 63) hx hb dX5_locator_40 (by decide) (by omega) (by omega) (fun c_36 => ?_) (fun c_36 => ?_)
      · skip
        exact ky_thr_IOB hx hb hlf hown hG hZ hS (hl.1.trans hml.symm) dX5_locator_63 dX5_locator_66 dX5_locator_67 dX5_locator_70 htab (Nat.le_of_ble_eq_true rfl) (Nat.le_of_ble_eq_true rfl) (show ((0 + dn_4) + dn_25) + 1 ≤ 1200 from (by omega)) (show ((0 + dm_5) + dm_26) + 6 ≤ 600000 from (by omega)) hlocks (⟨rfl, by first | trivial | omega⟩) (fun t hvm h1 h2 => ⟨(r_27, n_28, z_29, F_30, Er_31, En_32, Ez_33, EF_34), ⟨hok35, hfr35, hPE35, hef35⟩, hP.kept (fun k q hk => h2 q.1 (hP k q hk).lt), va_K.moved hvm hK, hD⟩) hS.2.2 (by omega) (by omega) (by omega) (by omega)
      · skip
        refine lv_iload_n hx hb dX5_locator_43 rfl (lv_at hl 2 rfl) ?_
        refine lv_aload_n hx hb dX5_locator_44 rfl (lv_at hl 0 rfl) ?_
        refine va_get (D := (dC, dI)) (ci := 5) (v := .ref (o 14)) (C := RX5) (T := TX5) (N := 16) hx hb hts kt_X5 hown hK hP 0 rfl rfl 9 (by decide) (kx_word hG kq_19_xouts_0 rfl) (fun _ h9 => h9) rfl dX5_locator_45 ?_
        have hxi_37 : 0 ≤ z_29 7 ∧ z_29 7 ≤ ((n_28 7 : Nat) : Int) ∧ ((n_28 7 : Nat) : Int) ≤ 1600 := hok35.1 7 (by decide)
        have hxi_38 : 0 ≤ z_29 8 ∧ z_29 8 ≤ ((n_28 8 : Nat) : Int) ∧ ((n_28 8 : Nat) : Int) ≤ 1600 := hok35.1 8 (by decide)
        have hxi_39 : 0 ≤ z_29 9 ∧ z_29 9 ≤ ((n_28 9 : Nat) : Int) ∧ ((n_28 9 : Nat) : Int) ≤ 1600 := hok35.1 9 (by decide)
        have hPc := hP.sub (ws' := (sU cI 1600 (o 14) (o 7) (o 8) (o 9) (r_27 7) (r_27 8) (r_27 9) (n_28 7) (n_28 8) (n_28 9) (z_29 7) (z_29 8) (z_29 9) (F_30 7) (F_30 8) (F_30 9))) [17, 18, 19, 20, 21, 22, 23] rfl
        refine xk_pure (va_runV (As := []) (rest := [.int (iz p1)]) ⟨hx, hb, hml, hown, hts⟩ (x_ssize l dC dI cI cB cE 1600 (o 14) (o 7) (o 8) (o 9) (r_27 7) (r_27 8) (r_27 9) (n_28 7) (n_28 8) (n_28 9) (z_29 7) (z_29 8) (z_29 9) (F_30 7) (F_30 8) (F_30 9)  H.size ) (cwV 0 hts (kx_gV kq_19_xouts_3 kq_15_xspan_51 kq_15_xspan_52 kq_15_xspan_53 kq_15_xspan_54 rfl) rfl rfl rfl (by decide +kernel) ⟨Nat.le_of_ble_eq_true rfl, Nat.le_of_ble_eq_true rfl⟩) ⟨pPre_blind, va_recv hK hPc (ci := 3) (q0 := 0) rfl rfl, pPre_give hPc hK hG⟩ rfl rfl hl.1 rfl (lv_room (Nat.le_of_ble_eq_true rfl)) dX5_locator_48 ⟨show ((0 + dn_4) + dn_25) + 0 ≤ 1200 from (by omega), show ((0 + dm_5) + dm_26) + 0 ≤ 600000 from (by omega)⟩) hS (fun z_41 locs hq_40 hS => ?_)
        refine W.eq (g2 := F0 m 51 ls [.int (iz z_41), .int (iz p1)]) rfl ?_
        try dsimp only at hq_40
        have hq_40 := hq_40.symm
        subst hq_40
        refine ki_icmp_ge (tgt := 63) hx hb dX5_locator_51 (by decide) (by omega) (by omega) (by omega) (by omega) (fun c_42 => ?_) (fun c_42 => ?_)
        · skip
          exact ky_thr_IOB hx hb hlf hown hG hZ hS (hl.1.trans hml.symm) dX5_locator_63 dX5_locator_66 dX5_locator_67 dX5_locator_70 htab (Nat.le_of_ble_eq_true rfl) (Nat.le_of_ble_eq_true rfl) (show ((0 + dn_4) + dn_25) + 1 ≤ 1200 from (by omega)) (show ((0 + dm_5) + dm_26) + 6 ≤ 600000 from (by omega)) hlocks (⟨rfl, by first | trivial | omega⟩) (fun t hvm h1 h2 => ⟨(r_27, n_28, z_29, F_30, Er_31, En_32, Ez_33, EF_34), ⟨hok35, hfr35, hPE35, hef35⟩, hP.kept (fun k q hk => h2 q.1 (hP k q hk).lt), va_K.moved hvm hK, hD⟩) hS.2.2 (by omega) (by omega) (by omega) (by omega)
        · skip
          refine lv_iload_n hx hb dX5_locator_54 rfl (lv_at hl 3 rfl) ?_
          refine ki_if_lt (tgt := 63) hx hb dX5_locator_55 (by decide) (by omega) (by omega) (fun c_43 => ?_) (fun c_43 => ?_)
          · skip
            exact ky_thr_IOB hx hb hlf hown hG hZ hS (hl.1.trans hml.symm) dX5_locator_63 dX5_locator_66 dX5_locator_67 dX5_locator_70 htab (Nat.le_of_ble_eq_true rfl) (Nat.le_of_ble_eq_true rfl) (show ((0 + dn_4) + dn_25) + 1 ≤ 1200 from (by omega)) (show ((0 + dm_5) + dm_26) + 6 ≤ 600000 from (by omega)) hlocks (⟨rfl, by first | trivial | omega⟩) (fun t hvm h1 h2 => ⟨(r_27, n_28, z_29, F_30, Er_31, En_32, Ez_33, EF_34), ⟨hok35, hfr35, hPE35, hef35⟩, hP.kept (fun k q hk => h2 q.1 (hP k q hk).lt), va_K.moved hvm hK, hD⟩) hS.2.2 (by omega) (by omega) (by omega) (by omega)
          · skip
            refine lv_iload_n hx hb dX5_locator_58 rfl (lv_at hl 3 rfl) ?_
            refine lv_iconst (v := iz 2) hx hb dX5_locator_59 (by decide) ?_
            refine ki_icmp_le (tgt := 71) hx hb dX5_locator_60 (by decide) (by omega) (by omega) (by omega) (by omega) (fun c_44 => ?_) (fun c_44 => ?_)
            · skip
              refine lv_aload_n hx hb dX5_locator_71 rfl (lv_at hl 0 rfl) ?_
              refine va_get (D := (dC, dI)) (ci := 5) (v := .ref (o 14)) (C := RX5) (T := TX5) (N := 16) hx hb hts kt_X5 hown hK hP 0 rfl rfl 9 (by decide) (kx_word hG kq_19_xouts_0 rfl) (fun _ h9 => h9) rfl dX5_locator_72 ?_
              refine lv_iload_n hx hb dX5_locator_75 rfl (lv_at hl 2 rfl) ?_
              have hPc := hP.sub (ws' := (sU cI 1600 (o 14) (o 7) (o 8) (o 9) (r_27 7) (r_27 8) (r_27 9) (n_28 7) (n_28 8) (n_28 9) (z_29 7) (z_29 8) (z_29 9) (F_30 7) (F_30 8) (F_30 9))) [17, 18, 19, 20, 21, 22, 23] rfl
              refine xk_pure (va_runV (As := [.int (iz p1)]) (rest := []) ⟨hx, hb, hml, hown, hts⟩ (x_sfrom l dC dI cI cB cE 1600 (o 14) (o 7) (o 8) (o 9) (r_27 7) (r_27 8) (r_27 9) (n_28 7) (n_28 8) (n_28 9) (z_29 7) (z_29 8) (z_29 9) (F_30 7) (F_30 8) (F_30 9) p1 H.size (by omega) (hok35.2.2.1 7) (by omega) (hok35.2.2.1 8) (by omega) (hok35.2.2.1 9) (by omega) (by omega)) (cwV 1 hts (kx_gV kq_19_xouts_8 kq_15_xspan_56 kq_15_xspan_57 kq_15_xspan_53 kq_15_xspan_58 rfl) rfl rfl rfl (by decide +kernel) ⟨Nat.le_of_ble_eq_true rfl, Nat.le_of_ble_eq_true rfl⟩) ⟨pPre_blind, va_recv hK hPc (ci := 3) (q0 := 0) rfl rfl, pPre_give hPc hK hG⟩ rfl rfl hl.1 rfl (lv_room (Nat.le_of_ble_eq_true rfl)) dX5_locator_76 ⟨show ((0 + dn_4) + dn_25) + 0 ≤ 1200 from (by omega), show ((0 + dm_5) + dm_26) + 0 ≤ 600000 from (by omega)⟩) hS (fun z_46 locs hq_45 hS => ?_)
              refine W.eq (g2 := F0 m 79 ls [.int (iz z_46)]) rfl ?_
              try dsimp only at hq_45
              refine lv_istore (lv' := [(4, .int (iz z_46)), (0, .ref (o 15)), (1, .int (iz p0)), (2, .int (iz p1)), (3, .int (iz p2))]) hx hb dX5_locator_79 hl (by decide) rfl (fun ls hl => ?_)
              refine lv_iload_n hx hb dX5_locator_81 rfl (lv_at hl 4 rfl) ?_
              refine ki_if_ne (tgt := 91) hx hb dX5_locator_82 (by decide) (by omega) (by omega) (fun c_47 => ?_) (fun c_47 => ?_)
              · skip
                refine lv_iload_n hx hb dX5_locator_91 rfl (lv_at hl 4 rfl) ?_
                refine lv_iconst (v := iz 1) hx hb dX5_locator_92 (by decide) ?_
                refine ki_icmp_ne (tgt := 101) hx hb dX5_locator_93 (by decide) (by omega) (by omega) (by omega) (by omega) (fun c_48 => ?_) (fun c_48 => ?_)
                · skip
                  refine lv_aload_n hx hb dX5_locator_101 rfl (lv_at hl 1 rfl) ?_
                  refine va_get (D := (dC, dI)) (ci := 5) (v := .ref (o 14)) (C := RX5) (T := TX5) (N := 16) hx hb hts kt_X5 hown hK hP 0 rfl rfl 9 (by decide) (kx_word hG kq_19_xouts_0 rfl) (fun _ h9 => h9) rfl dX5_locator_102 ?_
                  refine lv_iload_n hx hb dX5_locator_105 rfl (lv_at hl 3 rfl) ?_
                  have hPc := hP.sub (ws' := (sU cI 1600 (o 14) (o 7) (o 8) (o 9) (r_27 7) (r_27 8) (r_27 9) (n_28 7) (n_28 8) (n_28 9) (z_29 7) (z_29 8) (z_29 9) (F_30 7) (F_30 8) (F_30 9))) [17, 18, 19, 20, 21, 22, 23] rfl
                  refine xk_pure (va_runV (As := [.int (iz p1)]) (rest := []) ⟨hx, hb, hml, hown, hts⟩ (x_sto l dC dI cI cB cE 1600 (o 14) (o 7) (o 8) (o 9) (r_27 7) (r_27 8) (r_27 9) (n_28 7) (n_28 8) (n_28 9) (z_29 7) (z_29 8) (z_29 9) (F_30 7) (F_30 8) (F_30 9) p1 H.size (by omega) (hok35.2.2.1 7) (by omega) (hok35.2.2.1 8) (by omega) (hok35.2.2.1 9) (by omega) (by omega)) (cwV 1 hts (kx_gV kq_19_xouts_9 kq_15_xspan_64 kq_15_xspan_65 kq_15_xspan_53 kq_15_xspan_66 rfl) rfl rfl rfl (by decide +kernel) ⟨Nat.le_of_ble_eq_true rfl, Nat.le_of_ble_eq_true rfl⟩) ⟨pPre_blind, va_recv hK hPc (ci := 3) (q0 := 0) rfl rfl, pPre_give hPc hK hG⟩ rfl rfl hl.1 rfl (lv_room (Nat.le_of_ble_eq_true rfl)) dX5_locator_106 ⟨show ((0 + dn_4) + dn_25) + 0 ≤ 1200 from (by omega), show ((0 + dm_5) + dm_26) + 0 ≤ 600000 from (by omega)⟩) hS (fun z_50 locs hq_49 hS => ?_)
                  refine W.eq (g2 := F0 m 109 ls [.int (iz z_50)]) rfl ?_
                  try dsimp only at hq_49
                  refine lv_ldc (v := 100000) hx hb hown (kx_word hG kq_19_xouts_55 rfl) dX5_locator_109 ?_
                  refine ki_is (show (100000 : Int32) = iz 100000 by decide) ?_
                  refine lv_irem hx hb dX5_locator_111 (show ¬ iz 100000 = 0 by decide) ?_
                  refine ki_any (fun z_51 hz_51a hz_51b => ?_)
                  refine vx_ret ?_
                  exact xk_iret (ov := (fun u : (Int) × (Nat → Nat) × (Nat → Nat) × (Nat → Int) × (Nat → Int → Int) × (Nat → Nat → Nat) × (Nat → Nat → Nat) × (Nat → Nat → Int) × (Nat → Nat → Int → Int) => match u with | (q, r', n', z', F', Er', En', Ez', EF') => some (.int (iz q)))) (post := (fun (u : (Int) × (Nat → Nat) × (Nat → Nat) × (Nat → Int) × (Nat → Int → Int) × (Nat → Nat → Nat) × (Nat → Nat → Nat) × (Nat → Nat → Int) × (Nat → Nat → Int → Int)) (dn dm : Nat) => match u with | (q, r', n', z', F', Er', En', Ez', EF') => xR [0, 1, 2, 4, 5, 6, 7, 8, 9, 15, 16] [0, 1, 2, 4, 5, 6, 7, 8, 9] [10] [] N z F En Ez EF n' z' F' En' Ez' EF' ∧ (dn + xg n' ≤ xg n + 0 ∧ dm + xp n' ≤ xp n + 0) ∧ (True))) (ws := (fun u : (Int) × (Nat → Nat) × (Nat → Nat) × (Nat → Int) × (Nat → Int → Int) × (Nat → Nat → Nat) × (Nat → Nat → Nat) × (Nat → Nat → Int) × (Nat → Nat → Int → Int) => match u with | (q, r', n', z', F', Er', En', Ez', EF') => (xU cI cB cE o r' n' z' F' G (Eo 0 0) ++ eP cI N Eo Er' En' Ez' EF'))) (tys := xT cI cB cE) (z := z_51) (z_51, r_27, n_28, z_29, F_30, Er_31, En_32, Ez_33, EF_34) hx hb hr rfl hlocks rfl hP hD hK hS dX5_locator_112 (fun dn dm hdn hdm => ⟨⟨hok35, hfr35, hPE35, hef35⟩, ⟨by omega, by omega⟩, trivial⟩) (by omega) (by omega)
                · skip
                  refine lv_iload hx hb dX5_locator_96 (lv_at hl 0 rfl) ?_
                  refine lv_goto (tgt := 109) hx hb dX5_locator_98 (by decide) ?_
                  refine lv_ldc (v := 100000) hx hb hown (kx_word hG kq_19_xouts_55 rfl) dX5_locator_109 ?_
                  refine ki_is (show (100000 : Int32) = iz 100000 by decide) ?_
                  refine lv_irem hx hb dX5_locator_111 (show ¬ iz 100000 = 0 by decide) ?_
                  refine ki_any (fun z_52 hz_52a hz_52b => ?_)
                  refine vx_ret ?_
                  exact xk_iret (ov := (fun u : (Int) × (Nat → Nat) × (Nat → Nat) × (Nat → Int) × (Nat → Int → Int) × (Nat → Nat → Nat) × (Nat → Nat → Nat) × (Nat → Nat → Int) × (Nat → Nat → Int → Int) => match u with | (q, r', n', z', F', Er', En', Ez', EF') => some (.int (iz q)))) (post := (fun (u : (Int) × (Nat → Nat) × (Nat → Nat) × (Nat → Int) × (Nat → Int → Int) × (Nat → Nat → Nat) × (Nat → Nat → Nat) × (Nat → Nat → Int) × (Nat → Nat → Int → Int)) (dn dm : Nat) => match u with | (q, r', n', z', F', Er', En', Ez', EF') => xR [0, 1, 2, 4, 5, 6, 7, 8, 9, 15, 16] [0, 1, 2, 4, 5, 6, 7, 8, 9] [10] [] N z F En Ez EF n' z' F' En' Ez' EF' ∧ (dn + xg n' ≤ xg n + 0 ∧ dm + xp n' ≤ xp n + 0) ∧ (True))) (ws := (fun u : (Int) × (Nat → Nat) × (Nat → Nat) × (Nat → Int) × (Nat → Int → Int) × (Nat → Nat → Nat) × (Nat → Nat → Nat) × (Nat → Nat → Int) × (Nat → Nat → Int → Int) => match u with | (q, r', n', z', F', Er', En', Ez', EF') => (xU cI cB cE o r' n' z' F' G (Eo 0 0) ++ eP cI N Eo Er' En' Ez' EF'))) (tys := xT cI cB cE) (z := z_52) (z_52, r_27, n_28, z_29, F_30, Er_31, En_32, Ez_33, EF_34) hx hb hr rfl hlocks rfl hP hD hK hS dX5_locator_112 (fun dn dm hdn hdm => ⟨⟨hok35, hfr35, hPE35, hef35⟩, ⟨by omega, by omega⟩, trivial⟩) (by omega) (by omega)
              · skip
                refine lv_iload hx hb dX5_locator_85 (lv_at hl 0 rfl) ?_
                refine lv_ldc (v := 100000) hx hb hown (kx_word hG kq_19_xouts_55 rfl) dX5_locator_87 ?_
                refine ki_is (show (100000 : Int32) = iz 100000 by decide) ?_
                refine lv_idiv hx hb dX5_locator_89 (show ¬ iz 100000 = 0 by decide) ?_
                refine ki_any (fun z_53 hz_53a hz_53b => ?_)
                refine vx_ret ?_
                exact xk_iret (ov := (fun u : (Int) × (Nat → Nat) × (Nat → Nat) × (Nat → Int) × (Nat → Int → Int) × (Nat → Nat → Nat) × (Nat → Nat → Nat) × (Nat → Nat → Int) × (Nat → Nat → Int → Int) => match u with | (q, r', n', z', F', Er', En', Ez', EF') => some (.int (iz q)))) (post := (fun (u : (Int) × (Nat → Nat) × (Nat → Nat) × (Nat → Int) × (Nat → Int → Int) × (Nat → Nat → Nat) × (Nat → Nat → Nat) × (Nat → Nat → Int) × (Nat → Nat → Int → Int)) (dn dm : Nat) => match u with | (q, r', n', z', F', Er', En', Ez', EF') => xR [0, 1, 2, 4, 5, 6, 7, 8, 9, 15, 16] [0, 1, 2, 4, 5, 6, 7, 8, 9] [10] [] N z F En Ez EF n' z' F' En' Ez' EF' ∧ (dn + xg n' ≤ xg n + 0 ∧ dm + xp n' ≤ xp n + 0) ∧ (True))) (ws := (fun u : (Int) × (Nat → Nat) × (Nat → Nat) × (Nat → Int) × (Nat → Int → Int) × (Nat → Nat → Nat) × (Nat → Nat → Nat) × (Nat → Nat → Int) × (Nat → Nat → Int → Int) => match u with | (q, r', n', z', F', Er', En', Ez', EF') => (xU cI cB cE o r' n' z' F' G (Eo 0 0) ++ eP cI N Eo Er' En' Ez' EF'))) (tys := xT cI cB cE) (z := z_53) (z_53, r_27, n_28, z_29, F_30, Er_31, En_32, Ez_33, EF_34) hx hb hr rfl hlocks rfl hP hD hK hS dX5_locator_90 (fun dn dm hdn hdm => ⟨⟨hok35, hfr35, hPE35, hef35⟩, ⟨by omega, by omega⟩, trivial⟩) (by omega) (by omega)
            · skip
              exact ky_thr_IOB hx hb hlf hown hG hZ hS (hl.1.trans hml.symm) dX5_locator_63 dX5_locator_66 dX5_locator_67 dX5_locator_70 htab (Nat.le_of_ble_eq_true rfl) (Nat.le_of_ble_eq_true rfl) (show ((0 + dn_4) + dn_25) + 1 ≤ 1200 from (by omega)) (show ((0 + dm_5) + dm_26) + 6 ≤ 600000 from (by omega)) hlocks (⟨rfl, by first | trivial | omega⟩) (fun t hvm h1 h2 => ⟨(r_27, n_28, z_29, F_30, Er_31, En_32, Ez_33, EF_34), ⟨hok35, hfr35, hPE35, hef35⟩, hP.kept (fun k q hk => h2 q.1 (hP k q hk).lt), va_K.moved hvm hK, hD⟩) hS.2.2 (by omega) (by omega) (by omega) (by omega)
    · skip
      exact ky_thr_IOB hx hb hlf hown hG hZ hS (hl.1.trans hml.symm) dX5_locator_19 dX5_locator_22 dX5_locator_23 dX5_locator_26 htab (Nat.le_of_ble_eq_true rfl) (Nat.le_of_ble_eq_true rfl) (show (0 + dn_4) + 1 ≤ 1200 from (by omega)) (show (0 + dm_5) + 6 ≤ 600000 from (by omega)) hlocks (⟨rfl, by first | trivial | omega⟩) (fun t hvm h1 h2 => ⟨(r_6, n_7, z_8, F_9, Er_10, En_11, Ez_12, EF_13), ⟨hok14, hfr14, hPE14, hef14⟩, hP.kept (fun k q hk => h2 q.1 (hP k q hk).lt), va_K.moved hvm hK, hD⟩) hS.2.2 (by omega) (by omega) (by omega) (by omega)
set_option maxHeartbeats 4000000 in
set_option maxRecDepth 100000 in
theorem y_compare (l : Launch) (hlf : l.stackTraces = false) (dC : Nat → ClassId) (dI : Nat → Nat → Nat) (cI cB cE : ClassId) (o r n : Nat → Nat) (z : Nat → Int) (F : Nat → Int → Int) (G : Nat → Option Nat) (N : Nat) (Eo Er En : Nat → Nat → Nat) (Ez : Nat → Nat → Int) (EF : Nat → Nat → Int → Int) (p0 : Int) (p1 : Int) (sz : Nat) (hok : xOk n z F) (hxG : xG N (z 12) G Eo) (hPE : eA N En Ez EF) (hp01 : -2147483648 ≤ p0) (hp02 : p0 < 2147483648) (hp11 : -2147483648 ≤ p1) (hp12 : p1 < 2147483648) : vx_Met l yX5_compare [.code yX5_compare cX5_compare 3 (some .int)] ({ frames := 8, cells := 100, slots := 42000, locals := 121 }) (va_Pc [.ref (o 15), .int (iz p0), .int (iz p1)] (kx_Pre dC dI (xU cI cB cE o r n z F G (Eo 0 0) ++ eP cI N Eo Er En Ez EF) (xT cI cB cE) sz)) (xQ (fun u : (Int) × (Nat → Nat) × (Nat → Nat) × (Nat → Int) × (Nat → Int → Int) × (Nat → Nat → Nat) × (Nat → Nat → Nat) × (Nat → Nat → Int) × (Nat → Nat → Int → Int) => match u with | (q, r', n', z', F', Er', En', Ez', EF') => some (.int (iz q))) (fun (u : (Int) × (Nat → Nat) × (Nat → Nat) × (Nat → Int) × (Nat → Int → Int) × (Nat → Nat → Nat) × (Nat → Nat → Nat) × (Nat → Nat → Int) × (Nat → Nat → Int → Int)) (dn dm : Nat) => match u with | (q, r', n', z', F', Er', En', Ez', EF') => xR [] [] [] [] N z F En Ez EF n' z' F' En' Ez' EF' ∧ (dn + xg n' ≤ xg n + 0 ∧ dm + xp n' ≤ xp n + 0) ∧ (True)) (fun u t => kx_At dC dI (va_A (xU cI cB cE o r n z F G (Eo 0 0) ++ eP cI N Eo Er En Ez EF) sz) ((fun u : (Int) × (Nat → Nat) × (Nat → Nat) × (Nat → Int) × (Nat → Int → Int) × (Nat → Nat → Nat) × (Nat → Nat → Nat) × (Nat → Nat → Int) × (Nat → Nat → Int → Int) => match u with | (q, r', n', z', F', Er', En', Ez', EF') => (xU cI cB cE o r' n' z' F' G (Eo 0 0) ++ eP cI N Eo Er' En' Ez' EF')) u) (xT cI cB cE) t) (va_A (xU cI cB cE o r n z F G (Eo 0 0) ++ eP cI N Eo Er En Ez EF) sz)) (yX (fun E => (E = "java/util/NoSuchElementException" ∧ (True))) 3 20 (fun t => ∃ u : (Nat → Nat) × (Nat → Nat) × (Nat → Int) × (Nat → Int → Int) × (Nat → Nat → Nat) × (Nat → Nat → Nat) × (Nat → Nat → Int) × (Nat → Nat → Int → Int), match u with | (r', n', z', F', Er', En', Ez', EF') => xR [] [] [] [] N z F En Ez EF n' z' F' En' Ez' EF' ∧ kx_At dC dI (va_A (xU cI cB cE o r n z F G (Eo 0 0) ++ eP cI N Eo Er En Ez EF) sz) (xU cI cB cE o r' n' z' F' G (Eo 0 0) ++ eP cI N Eo Er' En' Ez' EF') (xT cI cB cE) t) (va_A (xU cI cB cE o r n z F G (Eo 0 0) ++ eP cI N Eo Er En Ez EF) sz)) 100 42000 (va_A (xU cI cB cE o r n z F G (Eo 0 0) ++ eP cI N Eo Er En Ez EF) sz) := by
  refine vx_ofW (cc := cX5_compare) (maxL := 3) (ret := (some .int)) (by decide) rfl ?_
  intro p e s m args below meth c s₁ B hml htab hv
  obtain ⟨rfl, hsz, hP, hK, hD0, hG, hZ⟩ := hv
  have hx := B.exec
  have hb := B.bytes
  have hr := B.returns
  have hts := kx_hts (a := ([.ref (o 15), .int (iz p0), .int (iz p1)] : List Value).toArray) hG
  have hown : s.vm.findClass RX5 = some m.cls := findClass_of_methodNamed B.named
  have hlocks := B.notSynchronized
  subst hsz
  have hD := hD0.self (sz := s.heap.size)
  generalize hAe : va_A (xU cI cB cE o r n z F G (Eo 0 0) ++ eP cI N Eo Er En Ez EF) s.heap.size = A at hD hZ ⊢
  have hA : ∀ q : Nat, s.heap.size ≤ q → A q := fun q h => by rw [← hAe]; exact Or.inr h
  have hS : va_S A s.heap s.heap [] := va_S.rf
  have hl := lv_entry ([.ref (o 15), .int (iz p0), .int (iz p1)]) (n := 3) (Nat.le_of_ble_eq_true rfl)
  rw [lg_entry_eq]
  generalize (lg_sl ([.ref (o 15), .int (iz p0), .int (iz p1)]) ++ List.replicate (3 - (lg_sl ([.ref (o 15), .int (iz p0), .int (iz p1)])).length) Slot.unset).toArray = ls at hl ⊢
  obtain ⟨hN1, hN2, hN3, hN4⟩ := hxG
  have hef : eFr [] [] En Ez EF En Ez EF := eFr.rf
  have hfr : xFr [] [] z F z F := xFr.rf
  have hxgl := xg_le n
  have hxpl := xp_le n
  have hl : lv_has ls 3 [(0, .ref (o 15)), (1, .int (iz p0)), (2, .int (iz p1))] := hl
  refine lv_aload_n hx hb dX5_compare_0 rfl (lv_at hl 0 rfl) ?_
  refine lv_iload_n hx hb dX5_compare_1 rfl (lv_at hl 1 rfl) ?_
  have hxz_1 : -2147483648 ≤ z 12 ∧ z 12 < 2147483648 := hok.2.2.2.1 12
  have hxG9 : xG N (z 12) G Eo := ⟨by omega, by omega, by omega, fun e9 h9 => hN4 e9 (by omega)⟩
  have hP : va_P (dC, dI) kxCl (xU cI cB cE o r n z F G (Eo 0 0) ++ eP cI N Eo Er En Ez EF) s.heap := hP
  have hD : va_D A (xU cI cB cE o r n z F G (Eo 0 0) ++ eP cI N Eo Er En Ez EF) := hD
  have hFc := xw_free hD hS hA
  refine yk_call (vx_runV (As := [.int (iz p0)]) (rest := []) ⟨hx, hb, hml, hown, hts⟩ (y_needEntry l hlf dC dI cI cB cE o r n z F G N Eo Er En Ez EF p0 s.heap.size hok hxG9 hPE (by omega) (by omega)) (cwV 1 hts (kx_gV kq_21_xcalls_10 kq_21_xcalls_11 kq_21_xcalls_12 kq_18_xrows_4 kq_21_xcalls_13 rfl) rfl rfl rfl (by decide +kernel) ⟨Nat.le_of_ble_eq_true rfl, Nat.le_of_ble_eq_true rfl⟩) ⟨kx_blind, va_recv hK hP (ci := 5) (q0 := 0) rfl rfl, kx_give (ws := []) (tys := []) hP hD hK hG hZ hS hFc⟩ rfl rfl hl.1 rfl (lv_room (Nat.le_of_ble_eq_true rfl)) dX5_compare_2 ⟨show 0 + 1 ≤ 100 from (by omega), show 0 + 6 ≤ 42000 from (by omega)⟩) hS (fun q _ h => hFc q h) hFc (fun E ce q9 t H1 locs ht hvm hEx hBx hk1 hS hcell hcv hcl => ?_) (fun u dn_4 dm_5 t H locs ht hvm hq_2 hB hk1 hS => ?_)
  · skip
    exact ky_out (fun x hx => (htab x hx).elim) hlocks hcell hcv hcl (by obtain ⟨rfl, h9⟩ := hEx; exact ⟨rfl, by first | trivial | omega⟩) (fun t9 ht9 hvm9 => by obtain ⟨⟨r8, n8, z8, F8, Er8, En8, Ez8, EF8⟩, hR8, hP8, hK8, hD8⟩ := hBx; exact ⟨(r8, n8, z8, F8, Er8, En8, Ez8, EF8), ⟨hR8.1, hfr.tr (hR8.2.1.mono (S' := []) (T' := []) (by decide) (by decide)), hR8.2.2.1, hef.tr (hR8.2.2.2.mono (S' := []) (T' := []) (by decide) (by decide))⟩, (by rw [ht9, ← ht]; exact hP8), va_K.moved hvm9 hK, hD8.weaken (fun _ q _ h => hFc _ h)⟩) hS hS.2.2 (by omega) (by omega) (by omega) (by omega)
  · skip
    obtain ⟨r_6, n_7, z_8, F_9, Er_10, En_11, Ez_12, EF_13⟩ := u
    obtain ⟨hP, hK1, hD1⟩ := hB
    rw [ht] at hP
    have hD := hD1.weaken (fun _ q _ h => hFc _ h)
    obtain ⟨hR14, hC14, hq_2⟩ := hq_2
    obtain ⟨rfl, rfl, rfl, rfl, rfl, rfl, rfl, hq_2⟩ := hq_2
    obtain ⟨rfl, hq_2⟩ := hq_2
    refine W.eq (g2 := F0 m 5 ls []) rfl ?_
    refine lv_aload_n hx hb dX5_compare_5 rfl (lv_at hl 0 rfl) ?_
    refine lv_iload_n hx hb dX5_compare_6 rfl (lv_at hl 2 rfl) ?_
    have hxG9 : xG N (z 12) G Eo := ⟨by omega, by omega, by omega, fun e9 h9 => hN4 e9 (by omega)⟩
    have hP : va_P (dC, dI) kxCl (xU cI cB cE o r n z F G (Eo 0 0) ++ eP cI N Eo Er En Ez EF) H := hP
    have hD : va_D A (xU cI cB cE o r n z F G (Eo 0 0) ++ eP cI N Eo Er En Ez EF) := hD
    have hFc := xw_free hD hS hA
    refine yk_call (vx_runV (As := [.int (iz p1)]) (rest := []) ⟨hx, hb, hml, hown, hts⟩ (y_needEntry l hlf dC dI cI cB cE o r n z F G N Eo Er En Ez EF p1 H.size hok hxG9 hPE (by omega) (by omega)) (cwV 1 hts (kx_gV kq_21_xcalls_10 kq_21_xcalls_11 kq_21_xcalls_12 kq_18_xrows_4 kq_21_xcalls_13 rfl) rfl rfl rfl (by decide +kernel) ⟨Nat.le_of_ble_eq_true rfl, Nat.le_of_ble_eq_true rfl⟩) ⟨kx_blind, va_recv hK hP (ci := 5) (q0 := 0) rfl rfl, kx_give (ws := []) (tys := []) hP hD hK hG hZ hS hFc⟩ rfl rfl hl.1 rfl (lv_room (Nat.le_of_ble_eq_true rfl)) dX5_compare_7 ⟨show (0 + dn_4) + 1 ≤ 100 from (by omega), show (0 + dm_5) + 6 ≤ 42000 from (by omega)⟩) hS (fun q _ h => hFc q h) hFc (fun E ce q9 t H1 locs ht hvm hEx hBx hk1 hS hcell hcv hcl => ?_) (fun u dn_17 dm_18 t H locs ht hvm hq_15 hB hk1 hS => ?_)
    · skip
      exact ky_out (fun x hx => (htab x hx).elim) hlocks hcell hcv hcl (by obtain ⟨rfl, h9⟩ := hEx; exact ⟨rfl, by first | trivial | omega⟩) (fun t9 ht9 hvm9 => by obtain ⟨⟨r8, n8, z8, F8, Er8, En8, Ez8, EF8⟩, hR8, hP8, hK8, hD8⟩ := hBx; exact ⟨(r8, n8, z8, F8, Er8, En8, Ez8, EF8), ⟨hR8.1, hfr.tr (hR8.2.1.mono (S' := []) (T' := []) (by decide) (by decide)), hR8.2.2.1, hef.tr (hR8.2.2.2.mono (S' := []) (T' := []) (by decide) (by decide))⟩, (by rw [ht9, ← ht]; exact hP8), va_K.moved hvm9 hK, hD8.weaken (fun _ q _ h => hFc _ h)⟩) hS hS.2.2 (by omega) (by omega) (by omega) (by omega)
    · skip
      obtain ⟨r_19, n_20, z_21, F_22, Er_23, En_24, Ez_25, EF_26⟩ := u
      obtain ⟨hP, hK1, hD1⟩ := hB
      rw [ht] at hP
      have hD := hD1.weaken (fun _ q _ h => hFc _ h)
      obtain ⟨hR27, hC27, hq_15⟩ := hq_15
      obtain ⟨rfl, rfl, rfl, rfl, rfl, rfl, rfl, hq_15⟩ := hq_15
      obtain ⟨rfl, hq_15⟩ := hq_15
      refine W.eq (g2 := F0 m 10 ls []) rfl ?_
      refine lv_aload_n hx hb dX5_compare_10 rfl (lv_at hl 0 rfl) ?_
      refine lv_iload_n hx hb dX5_compare_11 rfl (lv_at hl 1 rfl) ?_
      have hxG9 : xG N (z 12) G Eo := ⟨by omega, by omega, by omega, fun e9 h9 => hN4 e9 (by omega)⟩
      have hP : va_P (dC, dI) kxCl (xU cI cB cE o r n z F G (Eo 0 0) ++ eP cI N Eo Er En Ez EF) H := hP
      refine xk_pure (va_runV (As := [.int (iz p0)]) (rest := []) ⟨hx, hb, hml, hown, hts⟩ (y_known l dC dI cI cB cE o r n z F G N Eo Er En Ez EF p0 H.size hok hxG9 hPE (by omega) (by omega)) (cwV 1 hts (kx_gV kq_18_xrows_8 kq_18_xrows_9 kq_18_xrows_10 kq_18_xrows_4 kq_18_xrows_11 rfl) rfl rfl rfl (by decide +kernel) ⟨Nat.le_of_ble_eq_true rfl, Nat.le_of_ble_eq_true rfl⟩) ⟨pPre_blind, va_recv hK hP (ci := 5) (q0 := 0) rfl rfl, pPre_give hP hK hG⟩ rfl rfl hl.1 rfl (lv_room (Nat.le_of_ble_eq_true rfl)) dX5_compare_12 ⟨show ((0 + dn_4) + dn_17) + 0 ≤ 100 from (by omega), show ((0 + dm_5) + dm_18) + 0 ≤ 42000 from (by omega)⟩) hS (fun z_29 locs hq_28 hS => ?_)
      refine W.eq (g2 := F0 m 15 ls [.ref z_29.toNat]) rfl ?_
      try dsimp only at hq_28
      obtain ⟨j30, hj30, ez30, hje30⟩ := hq_28
      subst ez30
      refine W.eq (g2 := F0 m 15 ls [.ref (Eo j30 0)]) rfl ?_
      refine lv_aload_n hx hb dX5_compare_15 rfl (lv_at hl 0 rfl) ?_
      refine lv_iload_n hx hb dX5_compare_16 rfl (lv_at hl 2 rfl) ?_
      have hxG9 : xG N (z 12) G Eo := ⟨by omega, by omega, by omega, fun e9 h9 => hN4 e9 (by omega)⟩
      have hP : va_P (dC, dI) kxCl (xU cI cB cE o r n z F G (Eo 0 0) ++ eP cI N Eo Er En Ez EF) H := hP
      refine xk_pure (va_runV (As := [.int (iz p1)]) (rest := [.ref (Eo j30 0)]) ⟨hx, hb, hml, hown, hts⟩ (y_known l dC dI cI cB cE o r n z F G N Eo Er En Ez EF p1 H.size hok hxG9 hPE (by omega) (by omega)) (cwV 1 hts (kx_gV kq_18_xrows_8 kq_18_xrows_9 kq_18_xrows_10 kq_18_xrows_4 kq_18_xrows_11 rfl) rfl rfl rfl (by decide +kernel) ⟨Nat.le_of_ble_eq_true rfl, Nat.le_of_ble_eq_true rfl⟩) ⟨pPre_blind, va_recv hK hP (ci := 5) (q0 := 0) rfl rfl, pPre_give hP hK hG⟩ rfl rfl hl.1 rfl (lv_room (Nat.le_of_ble_eq_true rfl)) dX5_compare_17 ⟨show ((0 + dn_4) + dn_17) + 0 ≤ 100 from (by omega), show ((0 + dm_5) + dm_18) + 0 ≤ 42000 from (by omega)⟩) hS (fun z_32 locs hq_31 hS => ?_)
      refine W.eq (g2 := F0 m 20 ls [.ref z_32.toNat, .ref (Eo j30 0)]) rfl ?_
      try dsimp only at hq_31
      obtain ⟨j33, hj33, ez33, hje33⟩ := hq_31
      subst ez33
      refine W.eq (g2 := F0 m 20 ls [.ref (Eo j33 0), .ref (Eo j30 0)]) rfl ?_
      have hPk := hP
      have hP : va_P (dC, dI) kxCl ((xU cI cB cE o r n z F G (Eo 0 0)) ++ (eU cI (Eo j33) (Er j33) (En j33) (Ez j33) (EF j33)) ++ (eU cI (Eo j30) (Er j30) (En j30) (Ez j30) (EF j30))) H := (((eP_hd hP).app (eP_get hj33 hP)).app (eP_get hj30 hP))
      have hPc := hP.sub (ws' := ((eU cI (Eo j30) (Er j30) (En j30) (Ez j30) (EF j30)) ++ (eU cI (Eo j33) (Er j33) (En j33) (Ez j33) (EF j33)))) [45, 46, 47, 48, 49, 50, 51, 52, 53, 54, 55, 56, 57, 58, 59, 60, 29, 30, 31, 32, 33, 34, 35, 36, 37, 38, 39, 40, 41, 42, 43, 44] rfl
      refine xk_pure (va_runV (As := [.ref (Eo j33 0)]) (rest := []) ⟨hx, hb, hml, hown, hts⟩ (x_eorderTo l dC dI cI cB cE (Eo j30) (Er j30) (En j30) (Ez j30) (EF j30) (Eo j33) (Er j33) (En j33) (Ez j33) (EF j33)  H.size (hPE j30 hj30) (hPE j33 hj33)) (cwV 1 hts (kx_gV kq_18_xrows_42 kq_18_xrows_43 kq_18_xrows_44 kq_16_xentry_2 kq_18_xrows_45 rfl) rfl rfl rfl (by decide +kernel) ⟨Nat.le_of_ble_eq_true rfl, Nat.le_of_ble_eq_true rfl⟩) ⟨pPre_blind, va_recv hK hPc (ci := 0) (q0 := 0) rfl rfl, pPre_give hPc hK hG⟩ rfl rfl hl.1 rfl (lv_room (Nat.le_of_ble_eq_true rfl)) dX5_compare_20 ⟨show ((0 + dn_4) + dn_17) + 0 ≤ 100 from (by omega), show ((0 + dm_5) + dm_18) + 0 ≤ 42000 from (by omega)⟩) hS (fun z_35 locs hq_34 hS => ?_)
      refine W.eq (g2 := F0 m 23 ls [.int (iz z_35)]) rfl ?_
      try dsimp only at hq_34
      have hP := hPk
      refine vx_ret ?_
      exact xk_iret (ov := (fun u : (Int) × (Nat → Nat) × (Nat → Nat) × (Nat → Int) × (Nat → Int → Int) × (Nat → Nat → Nat) × (Nat → Nat → Nat) × (Nat → Nat → Int) × (Nat → Nat → Int → Int) => match u with | (q, r', n', z', F', Er', En', Ez', EF') => some (.int (iz q)))) (post := (fun (u : (Int) × (Nat → Nat) × (Nat → Nat) × (Nat → Int) × (Nat → Int → Int) × (Nat → Nat → Nat) × (Nat → Nat → Nat) × (Nat → Nat → Int) × (Nat → Nat → Int → Int)) (dn dm : Nat) => match u with | (q, r', n', z', F', Er', En', Ez', EF') => xR [] [] [] [] N z F En Ez EF n' z' F' En' Ez' EF' ∧ (dn + xg n' ≤ xg n + 0 ∧ dm + xp n' ≤ xp n + 0) ∧ (True))) (ws := (fun u : (Int) × (Nat → Nat) × (Nat → Nat) × (Nat → Int) × (Nat → Int → Int) × (Nat → Nat → Nat) × (Nat → Nat → Nat) × (Nat → Nat → Int) × (Nat → Nat → Int → Int) => match u with | (q, r', n', z', F', Er', En', Ez', EF') => (xU cI cB cE o r' n' z' F' G (Eo 0 0) ++ eP cI N Eo Er' En' Ez' EF'))) (tys := xT cI cB cE) (z := z_35) (z_35, r, n, z, F, Er, En, Ez, EF) hx hb hr rfl hlocks rfl hP hD hK hS dX5_compare_23 (fun dn dm hdn hdm => ⟨⟨hok, hfr, hPE, hef⟩, ⟨by omega, by omega⟩, trivial⟩) (by omega) (by omega)
set_option maxHeartbeats 4000000 in
set_option maxRecDepth 100000 in
theorem y_told (l : Launch) (hlf : l.stackTraces = false) (dC : Nat → ClassId) (dI : Nat → Nat → Nat) (cI cB cE : ClassId) (o r n : Nat → Nat) (z : Nat → Int) (F : Nat → Int → Int) (G : Nat → Option Nat) (N : Nat) (Eo Er En : Nat → Nat → Nat) (Ez : Nat → Nat → Int) (EF : Nat → Nat → Int → Int) (p0 : Int) (p1 : Int) (sz : Nat) (hok : xOk n z F) (hxG : xG N (z 12) G Eo) (hPE : eA N En Ez EF) (hp01 : -2147483648 ≤ p0) (hp02 : p0 < 2147483648) (hp11 : -2147483648 ≤ p1) (hp12 : p1 < 2147483648) : vx_Met l yX5_told [.code yX5_told cX5_told 4 (some .int)] ({ frames := 7, cells := 1200, slots := 600000, locals := 196 }) (va_Pc [.ref (o 15), .int (iz p0), .int (iz p1)] (kx_Pre dC dI (xU cI cB cE o r n z F G (Eo 0 0) ++ eP cI N Eo Er En Ez EF) (xT cI cB cE) sz)) (xQ (fun u : (Int) × (Nat → Nat) × (Nat → Nat) × (Nat → Int) × (Nat → Int → Int) × (Nat → Nat → Nat) × (Nat → Nat → Nat) × (Nat → Nat → Int) × (Nat → Nat → Int → Int) => match u with | (q, r', n', z', F', Er', En', Ez', EF') => some (.int (iz q))) (fun (u : (Int) × (Nat → Nat) × (Nat → Nat) × (Nat → Int) × (Nat → Int → Int) × (Nat → Nat → Nat) × (Nat → Nat → Nat) × (Nat → Nat → Int) × (Nat → Nat → Int → Int)) (dn dm : Nat) => match u with | (q, r', n', z', F', Er', En', Ez', EF') => xR [0, 1, 15, 17, 18, 19, 20, 21] [0, 1] [10, 11, 12, 13] [] N z F En Ez EF n' z' F' En' Ez' EF' ∧ (dn + xg n' ≤ xg n + 0 ∧ dm + xp n' ≤ xp n + 0) ∧ (True)) (fun u t => kx_At dC dI (va_A (xU cI cB cE o r n z F G (Eo 0 0) ++ eP cI N Eo Er En Ez EF) sz) ((fun u : (Int) × (Nat → Nat) × (Nat → Nat) × (Nat → Int) × (Nat → Int → Int) × (Nat → Nat → Nat) × (Nat → Nat → Nat) × (Nat → Nat → Int) × (Nat → Nat → Int → Int) => match u with | (q, r', n', z', F', Er', En', Ez', EF') => (xU cI cB cE o r' n' z' F' G (Eo 0 0) ++ eP cI N Eo Er' En' Ez' EF')) u) (xT cI cB cE) t) (va_A (xU cI cB cE o r n z F G (Eo 0 0) ++ eP cI N Eo Er En Ez EF) sz)) (yX (fun E => (E = "java/lang/IndexOutOfBoundsException" ∧ (True))) 95 41800 (fun t => ∃ u : (Nat → Nat) × (Nat → Nat) × (Nat → Int) × (Nat → Int → Int) × (Nat → Nat → Nat) × (Nat → Nat → Nat) × (Nat → Nat → Int) × (Nat → Nat → Int → Int), match u with | (r', n', z', F', Er', En', Ez', EF') => xR [0, 1, 15, 17, 18, 19, 20, 21] [0, 1] [10, 11, 12, 13] [] N z F En Ez EF n' z' F' En' Ez' EF' ∧ kx_At dC dI (va_A (xU cI cB cE o r n z F G (Eo 0 0) ++ eP cI N Eo Er En Ez EF) sz) (xU cI cB cE o r' n' z' F' G (Eo 0 0) ++ eP cI N Eo Er' En' Ez' EF') (xT cI cB cE) t) (va_A (xU cI cB cE o r n z F G (Eo 0 0) ++ eP cI N Eo Er En Ez EF) sz)) 1200 600000 (va_A (xU cI cB cE o r n z F G (Eo 0 0) ++ eP cI N Eo Er En Ez EF) sz) := by
  refine vx_ofW (cc := cX5_told) (maxL := 4) (ret := (some .int)) (by decide) rfl ?_
  intro p e s m args below meth c s₁ B hml htab hv
  obtain ⟨rfl, hsz, hP, hK, hD0, hG, hZ⟩ := hv
  have hx := B.exec
  have hb := B.bytes
  have hr := B.returns
  have hts := kx_hts (a := ([.ref (o 15), .int (iz p0), .int (iz p1)] : List Value).toArray) hG
  have hown : s.vm.findClass RX5 = some m.cls := findClass_of_methodNamed B.named
  have hlocks := B.notSynchronized
  subst hsz
  have hD := hD0.self (sz := s.heap.size)
  generalize hAe : va_A (xU cI cB cE o r n z F G (Eo 0 0) ++ eP cI N Eo Er En Ez EF) s.heap.size = A at hD hZ ⊢
  have hA : ∀ q : Nat, s.heap.size ≤ q → A q := fun q h => by rw [← hAe]; exact Or.inr h
  have hS : va_S A s.heap s.heap [] := va_S.rf
  have hl := lv_entry ([.ref (o 15), .int (iz p0), .int (iz p1)]) (n := 4) (Nat.le_of_ble_eq_true rfl)
  rw [lg_entry_eq]
  generalize (lg_sl ([.ref (o 15), .int (iz p0), .int (iz p1)]) ++ List.replicate (4 - (lg_sl ([.ref (o 15), .int (iz p0), .int (iz p1)])).length) Slot.unset).toArray = ls at hl ⊢
  obtain ⟨hN1, hN2, hN3, hN4⟩ := hxG
  have hef : eFr [10, 11, 12, 13] [] En Ez EF En Ez EF := eFr.rf
  have hfr : xFr [0, 1, 15, 17, 18, 19, 20, 21] [0, 1] z F z F := xFr.rf
  have hxgl := xg_le n
  have hxpl := xp_le n
  have hl : lv_has ls 4 [(0, .ref (o 15)), (1, .int (iz p0)), (2, .int (iz p1))] := hl
  generalize hQe : vx_MQ below (xQ (fun u : (Int) × (Nat → Nat) × (Nat → Nat) × (Nat → Int) × (Nat → Int → Int) × (Nat → Nat → Nat) × (Nat → Nat → Nat) × (Nat → Nat → Int) × (Nat → Nat → Int → Int) => match u with | (q, r', n', z', F', Er', En', Ez', EF') => some (.int (iz q))) (fun (u : (Int) × (Nat → Nat) × (Nat → Nat) × (Nat → Int) × (Nat → Int → Int) × (Nat → Nat → Nat) × (Nat → Nat → Nat) × (Nat → Nat → Int) × (Nat → Nat → Int → Int)) (dn dm : Nat) => match u with | (q, r', n', z', F', Er', En', Ez', EF') => xR [0, 1, 15, 17, 18, 19, 20, 21] [0, 1] [10, 11, 12, 13] [] N z F En Ez EF n' z' F' En' Ez' EF' ∧ (dn + xg n' ≤ xg n + 0 ∧ dm + xp n' ≤ xp n + 0) ∧ (True)) (fun u t => kx_At dC dI A ((fun u : (Int) × (Nat → Nat) × (Nat → Nat) × (Nat → Int) × (Nat → Int → Int) × (Nat → Nat → Nat) × (Nat → Nat → Nat) × (Nat → Nat → Int) × (Nat → Nat → Int → Int) => match u with | (q, r', n', z', F', Er', En', Ez', EF') => (xU cI cB cE o r' n' z' F' G (Eo 0 0) ++ eP cI N Eo Er' En' Ez' EF')) u) (xT cI cB cE) t) A) (yX (fun E => (E = "java/lang/IndexOutOfBoundsException" ∧ (True))) 95 41800 (fun t => ∃ u : (Nat → Nat) × (Nat → Nat) × (Nat → Int) × (Nat → Int → Int) × (Nat → Nat → Nat) × (Nat → Nat → Nat) × (Nat → Nat → Int) × (Nat → Nat → Int → Int), match u with | (r', n', z', F', Er', En', Ez', EF') => xR [0, 1, 15, 17, 18, 19, 20, 21] [0, 1] [10, 11, 12, 13] [] N z F En Ez EF n' z' F' En' Ez' EF' ∧ kx_At dC dI A (xU cI cB cE o r' n' z' F' G (Eo 0 0) ++ eP cI N Eo Er' En' Ez' EF') (xT cI cB cE) t) A) ([.ref (o 15), .int (iz p0), .int (iz p1)] : List Value).toArray s 1200 600000 A = QQ
  refine lv_aload_n hx hb dX5_told_0 rfl (lv_at hl 0 rfl) ?_
  have hxz_1 : -2147483648 ≤ z 12 ∧ z 12 < 2147483648 := hok.2.2.2.1 12
  have hxG9 : xG N (z 12) G Eo := ⟨by omega, by omega, by omega, fun e9 h9 => hN4 e9 (by omega)⟩
  have hP : va_P (dC, dI) kxCl (xU cI cB cE o r n z F G (Eo 0 0) ++ eP cI N Eo Er En Ez EF) s.heap := hP
  have hD : va_D A (xU cI cB cE o r n z F G (Eo 0 0) ++ eP cI N Eo Er En Ez EF) := hD
  have hFc := xw_free hD hS hA
  refine xk_call (va_runV (As := []) (rest := []) ⟨hx, hb, hml, hown, hts⟩ (y_findRows l dC dI cI cB cE o r n z F G N Eo Er En Ez EF  s.heap.size hok hxG9 hPE ) (cwV 0 hts (kx_gV kq_21_xcalls_25 kq_21_xcalls_26 kq_21_xcalls_27 kq_18_xrows_4 kq_21_xcalls_28 rfl) rfl rfl rfl (by decide +kernel) ⟨Nat.le_of_ble_eq_true rfl, Nat.le_of_ble_eq_true rfl⟩) ⟨kx_blind, va_recv hK hP (ci := 5) (q0 := 0) rfl rfl, kx_give (ws := []) (tys := []) hP hD hK hG hZ hS hFc⟩ rfl rfl hl.1 rfl (lv_room (Nat.le_of_ble_eq_true rfl)) dX5_told_1 ⟨show 0 + 600 ≤ 1200 from (by omega), show 0 + 300000 ≤ 600000 from (by omega)⟩) hS (fun q _ h => hFc q h) hFc (fun u dn_4 dm_5 t H locs ht hvm hq_2 hB hk1 hS => ?_)
  obtain ⟨r_6, n_7, z_8, F_9, Er_10, En_11, Ez_12, EF_13⟩ := u
  obtain ⟨hP, hK1, hD1⟩ := hB
  rw [ht] at hP
  have hD := hD1.weaken (fun _ q _ h => hFc _ h)
  obtain ⟨hR14, hC14, hq_2⟩ := hq_2
  have hok14 := hR14.1
  have hfr14 := hfr.tr (hR14.2.1.mono (S' := [0, 1, 15, 17, 18, 19, 20, 21]) (T' := [0, 1]) (by decide) (by decide))
  have hPE14 := hR14.2.2.1
  have hef14 := hef.tr (hR14.2.2.2.mono (S' := [10, 11, 12, 13]) (T' := []) (by decide) (by decide))
  have hz14 : z_8 12 = (z 12) := hR14.2.1.1 12 (by decide)
  refine W.eq (g2 := F0 m 4 ls []) rfl ?_
  try dsimp only at hq_2
  refine lv_aload_n hx hb dX5_told_4 rfl (lv_at hl 0 rfl) ?_
  have hxz_15 : -2147483648 ≤ z_8 12 ∧ z_8 12 < 2147483648 := hok14.2.2.2.1 12
  have hxG9 : xG N (z_8 12) G Eo := ⟨by omega, by omega, by omega, fun e9 h9 => hN4 e9 (by omega)⟩
  have hP : va_P (dC, dI) kxCl (xU cI cB cE o r_6 n_7 z_8 F_9 G (Eo 0 0) ++ eP cI N Eo Er_10 En_11 Ez_12 EF_13) H := hP
  have hD : va_D A (xU cI cB cE o r_6 n_7 z_8 F_9 G (Eo 0 0) ++ eP cI N Eo Er_10 En_11 Ez_12 EF_13) := hD
  have hFc := xw_free hD hS hA
  refine xk_call (va_runV (As := []) (rest := []) ⟨hx, hb, hml, hown, hts⟩ (y_countByRows l dC dI cI cB cE o r_6 n_7 z_8 F_9 G N Eo Er_10 En_11 Ez_12 EF_13  H.size hok14 hxG9 hPE14 ) (cwV 0 hts (kx_gV kq_21_xcalls_41 kq_21_xcalls_42 kq_21_xcalls_43 kq_18_xrows_4 kq_21_xcalls_44 rfl) rfl rfl rfl (by decide +kernel) ⟨Nat.le_of_ble_eq_true rfl, Nat.le_of_ble_eq_true rfl⟩) ⟨kx_blind, va_recv hK hP (ci := 5) (q0 := 0) rfl rfl, kx_give (ws := []) (tys := []) hP hD hK hG hZ hS hFc⟩ rfl rfl hl.1 rfl (lv_room (Nat.le_of_ble_eq_true rfl)) dX5_told_5 ⟨show (0 + dn_4) + 100 ≤ 1200 from (by omega), show (0 + dm_5) + 42000 ≤ 600000 from (by omega)⟩) hS (fun q _ h => hFc q h) hFc (fun u dn_18 dm_19 t H locs ht hvm hq_16 hB hk1 hS => ?_)
  obtain ⟨r_20, n_21, z_22, F_23, Er_24, En_25, Ez_26, EF_27⟩ := u
  obtain ⟨hP, hK1, hD1⟩ := hB
  rw [ht] at hP
  have hD := hD1.weaken (fun _ q _ h => hFc _ h)
  obtain ⟨hR28, hC28, hq_16⟩ := hq_16
  have hok28 := hR28.1
  have hfr28 := hfr14.tr (hR28.2.1.mono (S' := [0, 1, 15, 17, 18, 19, 20, 21]) (T' := [0, 1]) (by decide) (by decide))
  have hPE28 := hR28.2.2.1
  have hef28 := hef14.tr (hR28.2.2.2.mono (S' := [10, 11, 12, 13]) (T' := []) (by decide) (by decide))
  have hz28 : z_22 12 = (z_8 12) := hR28.2.1.1 12 (by decide)
  refine W.eq (g2 := F0 m 8 ls []) rfl ?_
  try dsimp only at hq_16
  refine lv_aload_n hx hb dX5_told_8 rfl (lv_at hl 0 rfl) ?_
  refine va_get (D := (dC, dI)) (ci := 5) (v := .ref (o 12)) (C := RX5) (T := TX5) (N := 16) hx hb hts kt_X5 hown hK hP 0 rfl rfl 12 (by decide) (kx_word hG kq_19_xouts_49 rfl) (fun _ h9 => h9) rfl dX5_told_9 ?_
  refine lv_iload_n hx hb dX5_told_12 rfl (lv_at hl 1 rfl) ?_
  have hxz_29 : -2147483648 ≤ z_22 17 ∧ z_22 17 < 2147483648 := hok28.2.2.2.1 17
  have hxz_30 : -2147483648 ≤ z_22 18 ∧ z_22 18 < 2147483648 := hok28.2.2.2.1 18
  have hxz_31 : -2147483648 ≤ z_22 19 ∧ z_22 19 < 2147483648 := hok28.2.2.2.1 19
  have hxz_32 : -2147483648 ≤ z_22 20 ∧ z_22 20 < 2147483648 := hok28.2.2.2.1 20
  have hxz_33 : -2147483648 ≤ z_22 21 ∧ z_22 21 < 2147483648 := hok28.2.2.2.1 21
  have hPc := hP.sub (ws' := (wU (o 12) (z_22 17) (z_22 18) (z_22 19) (z_22 20) (z_22 21))) [24] rfl
  have hDc := hD.sub (ws' := (wU (o 12) (z_22 17) (z_22 18) (z_22 19) (z_22 20) (z_22 21))) [24] (by decide) rfl
  have hFc := va_free (wc := (wU (o 12) (z_22 17) (z_22 18) (z_22 19) (z_22 20) (z_22 21))) hD hS hA [24] rfl
  refine xk_call (va_runV (As := [.int (iz p0)]) (rest := []) ⟨hx, hb, hml, hown, hts⟩ (x_lookFor l dC dI cI cB cE (o 12) (z_22 17) (z_22 18) (z_22 19) (z_22 20) (z_22 21) p0 H.size (by omega) (by omega) (by omega) (by omega) (by omega) (by omega) (by omega)) (cwV 1 hts (kx_gV kq_21_xcalls_45 kq_21_xcalls_46 kq_21_xcalls_47 kq_19_xouts_53 kq_21_xcalls_48 rfl) rfl rfl rfl (by decide +kernel) ⟨Nat.le_of_ble_eq_true rfl, Nat.le_of_ble_eq_true rfl⟩) ⟨kx_blind, va_recv hK hPc (ci := 4) (q0 := 0) rfl rfl, kx_give (ws := []) (tys := []) hPc hDc hK hG hZ hS hFc⟩ rfl rfl hl.1 rfl (lv_room (Nat.le_of_ble_eq_true rfl)) dX5_told_13 ⟨show ((0 + dn_4) + dn_18) + 0 ≤ 1200 from (by omega), show ((0 + dm_5) + dm_19) + 0 ≤ 600000 from (by omega)⟩) hS (fun q _ h => hFc q h) hFc (fun u dn_35 dm_36 t H locs ht hvm hq_34 hB hk1 hS => ?_)
  obtain ⟨z1_37, z2_38⟩ := u
  obtain ⟨hP1, hK1, hD1⟩ := hB
  rw [ht] at hP1
  obtain ⟨hP, hD⟩ := xj_pool (wr := [(o 15, .inr (5, [.ref (o 16), .ref (Eo 0 0), .int (iz (z_22 12)), .int (iz (z_22 13)), .int (iz (z_22 14)), .ref (o 0), .ref (o 1), .int (iz (z_22 15)), .ref (o 13), .ref (o 14), .int (iz (z_22 16)), .ref (o 2), .ref (o 12), .ref (o 3), .ref (o 10), .ref (o 11)])), (o 16, .inl (cE, 80, .inr (.inr (.inr (.inr G))))), (o 0, .inr (1, [.int (iz 80), .ref (r_20 0), .int (iz (z_22 0))])), (r_20 0, .inl (cI, n_21 0, .inl (iA (F_23 0)))), (o 1, .inr (1, [.int (iz 80), .ref (r_20 1), .int (iz (z_22 1))])), (r_20 1, .inl (cI, n_21 1, .inl (iA (F_23 1)))), (o 2, .inr (1, [.int (iz 80), .ref (r_20 2), .int (iz (z_22 2))])), (r_20 2, .inl (cI, n_21 2, .inl (iA (F_23 2)))), (o 3, .inr (1, [.int (iz 80), .ref (r_20 3), .int (iz (z_22 3))])), (r_20 3, .inl (cI, n_21 3, .inl (iA (F_23 3)))), (o 13, .inr (3, [.ref (o 4), .ref (o 5), .ref (o 6)])), (o 4, .inr (1, [.int (iz 1600), .ref (r_20 4), .int (iz (z_22 4))])), (r_20 4, .inl (cI, n_21 4, .inl (iA (F_23 4)))), (o 5, .inr (1, [.int (iz 1600), .ref (r_20 5), .int (iz (z_22 5))])), (r_20 5, .inl (cI, n_21 5, .inl (iA (F_23 5)))), (o 6, .inr (1, [.int (iz 1600), .ref (r_20 6), .int (iz (z_22 6))])), (r_20 6, .inl (cI, n_21 6, .inl (iA (F_23 6)))), (o 14, .inr (3, [.ref (o 7), .ref (o 8), .ref (o 9)])), (o 7, .inr (1, [.int (iz 1600), .ref (r_20 7), .int (iz (z_22 7))])), (r_20 7, .inl (cI, n_21 7, .inl (iA (F_23 7)))), (o 8, .inr (1, [.int (iz 1600), .ref (r_20 8), .int (iz (z_22 8))])), (r_20 8, .inl (cI, n_21 8, .inl (iA (F_23 8)))), (o 9, .inr (1, [.int (iz 1600), .ref (r_20 9), .int (iz (z_22 9))])), (r_20 9, .inl (cI, n_21 9, .inl (iA (F_23 9)))), (o 10, .inr (2, [.ref (r_20 10), .int (iz (z_22 10)), .int (iz (z_22 22))])), (r_20 10, .inl (cB, n_21 10, .inl (iA (F_23 10)))), (o 11, .inr (2, [.ref (r_20 11), .int (iz (z_22 11)), .int (iz (z_22 23))])), (r_20 11, .inl (cB, n_21 11, .inl (iA (F_23 11))))]) (w1 := (wU (o 12) z1_37 z2_38 (z_22 19) (z_22 20) (z_22 21))) (ws' := (xU cI cB cE o r_20 n_21 (va_up (va_up z_22 17 z1_37) 18 z2_38) F_23 G (Eo 0 0))) hP hD [24] [0, 1, 2, 3, 4, 5, 6, 7, 8, 9, 10, 11, 12, 13, 14, 15, 16, 17, 18, 19, 20, 21, 22, 23, 25, 26, 27, 28] [0, 1, 2, 3, 4, 5, 6, 7, 8, 9, 10, 11, 12, 13, 14, 15, 16, 17, 18, 19, 20, 21, 22, 23, 28, 24, 25, 26, 27] rfl rfl (by decide) (by decide) hk1 hFc hP1 hD1 rfl (by decide)
  refine W.eq (g2 := F0 m 16 ls []) rfl ?_
  try dsimp only at hq_34
  obtain ⟨hd39, hm39, hw39⟩ := hq_34
  subst hd39
  subst hm39
  refine lv_iconst (v := iz 0) hx hb dX5_told_16 (by decide) ?_
  refine lv_istore_n (lv' := [(3, .int (iz 0)), (0, .ref (o 15)), (1, .int (iz p0)), (2, .int (iz p1))]) hx hb dX5_told_17 rfl hl (by decide) rfl (fun ls hl => ?_)
  have hok40 : xOk n_21 (va_up (va_up z_22 17 z1_37) 18 z2_38) F_23 := ((hok28.s 17 (by decide) (show -2147483648 ≤ z1_37 ∧ z1_37 < 2147483648 by omega) (by omega)).s 18 (by decide) (show -2147483648 ≤ z2_38 ∧ z2_38 < 2147483648 by omega) (by omega))
  have hfr40 : xFr [0, 1, 15, 17, 18, 19, 20, 21] [0, 1] z F (va_up (va_up z_22 17 z1_37) 18 z2_38) F_23 := ((hfr28.uz 17 (by decide) _).uz 18 (by decide) _)
  have lp18 : ∀ (n0 : Nat) (k : Int) (rL18 : Nat → Nat) (nL18 : Nat → Nat) (zL18 : Nat → Int) (FL18 : Nat → Int → Int) (ErL18 : Nat → Nat → Nat) (EnL18 : Nat → Nat → Nat) (EzL18 : Nat → Nat → Int) (EFL18 : Nat → Nat → Int → Int) (cv : Nat) (sv : Nat), ((xR [0, 1, 15, 17, 18, 19, 20, 21] [0, 1] [10, 11, 12, 13] [] N z F En Ez EF nL18 zL18 FL18 EnL18 EzL18 EFL18) ∧ (cv + xg nL18 ≤ xg n + (0) ∧ sv + xp nL18 ≤ xp n + (0)) ∧ (zL18 12 = z 12) ∧ (0 ≤ k ∧ k ≤ 79)) → (z 12 - k).toNat < n0 → ∀ (H : Heap) (locs : List Loc), va_P (dC, dI) kxCl ((xU cI cB cE o rL18 nL18 zL18 FL18 G (Eo 0 0)) ++ (eP cI N Eo ErL18 EnL18 EzL18 EFL18)) H → va_D A ((xU cI cB cE o rL18 nL18 zL18 FL18 G (Eo 0 0)) ++ (eP cI N Eo ErL18 EnL18 EzL18 EFL18)) → va_S A s.heap H locs → ∀ ls : Array Slot, lv_has ls 4 [(3, .int (iz k)), (0, .ref (o 15)), (1, .int (iz p0)), (2, .int (iz p1))] → W p l e (headSpec [.code yX5_told cX5_told 4 (some .int)] ({ frames := 7, cells := 1200, slots := 600000, locals := 196 })).room s m ([.ref (o 15), .int (iz p0), .int (iz p1)] : List Value).toArray below meth c H locs cv sv QQ (F0 m 18 ls []) := by
    intro n0
    induction n0 with
    | zero => intro k rL18 nL18 zL18 FL18 ErL18 EnL18 EzL18 EFL18 cv sv hinv hm0; exact absurd hm0 (Nat.not_lt_zero _)
    | succ n0 ih18 =>
      intro k rL18 nL18 zL18 FL18 ErL18 EnL18 EzL18 EFL18 cv sv hinv hm0 H locs hP hD hS ls hl
      obtain ⟨hRLL18, hCLL18, hZLL18, hk⟩ := hinv
      refine lv_iload_n hx hb dX5_told_18 rfl (lv_at hl 0 rfl) ?_
      refine lv_aload_n hx hb dX5_told_19 rfl (lv_at hl 1 rfl) ?_
      have hxz_41 : -2147483648 ≤ zL18 12 ∧ zL18 12 < 2147483648 := hRLL18.1.2.2.2.1 12
      refine va_get (D := (dC, dI)) (ci := 5) (v := .int (iz (zL18 12))) (C := RX5) (T := TX5) (N := 16) hx hb hts kt_X5 hown hK hP 0 rfl rfl 2 (by decide) (kx_word hG kq_18_xrows_0 rfl) (fun _ h9 => h9) rfl dX5_told_20 ?_
      refine ki_icmp_ge (tgt := 37) hx hb dX5_told_23 (by decide) (by omega) (by omega) (by omega) (by omega) (fun c_42 => ?_) (fun c_42 => ?_)
      · skip
        refine lv_iload_n hx hb dX5_told_37 rfl (lv_at hl 2 rfl) ?_
        refine lv_iconst (v := iz (-1)) hx hb dX5_told_38 (by decide) ?_
        refine ki_icmp_ne (tgt := 50) hx hb dX5_told_39 (by decide) (by omega) (by omega) (by omega) (by omega) (fun c_43 => ?_) (fun c_43 => ?_)
        · skip
          refine lv_iload_n hx hb dX5_told_50 rfl (lv_at hl 2 rfl) ?_
          refine ki_if_lt (tgt := 74) hx hb dX5_told_51 (by decide) (by omega) (by omega) (fun c_44 => ?_) (fun c_44 => ?_)
          · skip
            rw [← hQe]
            exact ky_thr_IOB hx hb hlf hown hG hZ hS (hl.1.trans hml.symm) dX5_told_74 dX5_told_77 dX5_told_78 dX5_told_81 htab (Nat.le_of_ble_eq_true rfl) (Nat.le_of_ble_eq_true rfl) (show cv + 1 ≤ 1200 from (by omega)) (show sv + 6 ≤ 600000 from (by omega)) hlocks (⟨rfl, by first | trivial | omega⟩) (fun t hvm h1 h2 => ⟨(rL18, nL18, zL18, FL18, ErL18, EnL18, EzL18, EFL18), ⟨hRLL18.1, hRLL18.2.1, hRLL18.2.2.1, hRLL18.2.2.2⟩, hP.kept (fun k q hk => h2 q.1 (hP k q hk).lt), va_K.moved hvm hK, hD⟩) hS.2.2 (by omega) (by omega) (by omega) (by omega)
          · skip
            refine lv_iload_n hx hb dX5_told_54 rfl (lv_at hl 2 rfl) ?_
            refine lv_aload_n hx hb dX5_told_55 rfl (lv_at hl 1 rfl) ?_
            refine va_get (D := (dC, dI)) (ci := 5) (v := .ref (o 12)) (C := RX5) (T := TX5) (N := 16) hx hb hts kt_X5 hown hK hP 0 rfl rfl 12 (by decide) (kx_word hG kq_19_xouts_49 rfl) (fun _ h9 => h9) rfl dX5_told_56 ?_
            have hxz_45 : -2147483648 ≤ zL18 18 ∧ zL18 18 < 2147483648 := hRLL18.1.2.2.2.1 18
            refine va_getN (D := (dC, dI)) (ci := 4) (v := .int (iz (zL18 18))) (C := RX4) (T := TX4) (N := 5) hx hb hts kt_X4 hown hK hP 24 rfl rfl 1 (by decide) (va_Nw.use rfl (kx_nf hG kq_21_xcalls_49)) (fun _ h9 => h9) rfl dX5_told_59 ?_
            refine ki_icmp_ge (tgt := 74) hx hb dX5_told_62 (by decide) (by omega) (by omega) (by omega) (by omega) (fun c_46 => ?_) (fun c_46 => ?_)
            · skip
              rw [← hQe]
              exact ky_thr_IOB hx hb hlf hown hG hZ hS (hl.1.trans hml.symm) dX5_told_74 dX5_told_77 dX5_told_78 dX5_told_81 htab (Nat.le_of_ble_eq_true rfl) (Nat.le_of_ble_eq_true rfl) (show cv + 1 ≤ 1200 from (by omega)) (show sv + 6 ≤ 600000 from (by omega)) hlocks (⟨rfl, by first | trivial | omega⟩) (fun t hvm h1 h2 => ⟨(rL18, nL18, zL18, FL18, ErL18, EnL18, EzL18, EFL18), ⟨hRLL18.1, hRLL18.2.1, hRLL18.2.2.1, hRLL18.2.2.2⟩, hP.kept (fun k q hk => h2 q.1 (hP k q hk).lt), va_K.moved hvm hK, hD⟩) hS.2.2 (by omega) (by omega) (by omega) (by omega)
            · skip
              refine lv_iload_n hx hb dX5_told_65 rfl (lv_at hl 3 rfl) ?_
              refine ki_if_lt (tgt := 74) hx hb dX5_told_66 (by decide) (by omega) (by omega) (fun c_47 => ?_) (fun c_47 => ?_)
              · skip
                rw [← hQe]
                exact ky_thr_IOB hx hb hlf hown hG hZ hS (hl.1.trans hml.symm) dX5_told_74 dX5_told_77 dX5_told_78 dX5_told_81 htab (Nat.le_of_ble_eq_true rfl) (Nat.le_of_ble_eq_true rfl) (show cv + 1 ≤ 1200 from (by omega)) (show sv + 6 ≤ 600000 from (by omega)) hlocks (⟨rfl, by first | trivial | omega⟩) (fun t hvm h1 h2 => ⟨(rL18, nL18, zL18, FL18, ErL18, EnL18, EzL18, EFL18), ⟨hRLL18.1, hRLL18.2.1, hRLL18.2.2.1, hRLL18.2.2.2⟩, hP.kept (fun k q hk => h2 q.1 (hP k q hk).lt), va_K.moved hvm hK, hD⟩) hS.2.2 (by omega) (by omega) (by omega) (by omega)
              · skip
                refine lv_iload_n hx hb dX5_told_69 rfl (lv_at hl 3 rfl) ?_
                refine lv_iconst (v := iz 2) hx hb dX5_told_70 (by decide) ?_
                refine ki_icmp_le (tgt := 82) hx hb dX5_told_71 (by decide) (by omega) (by omega) (by omega) (by omega) (fun c_48 => ?_) (fun c_48 => ?_)
                · skip
                  refine lv_iload_n hx hb dX5_told_82 rfl (lv_at hl 3 rfl) ?_
                  refine ki_if_ne (tgt := 94) hx hb dX5_told_83 (by decide) (by omega) (by omega) (fun c_49 => ?_) (fun c_49 => ?_)
                  · skip
                    refine lv_iload_n hx hb dX5_told_94 rfl (lv_at hl 3 rfl) ?_
                    refine lv_iconst (v := iz 1) hx hb dX5_told_95 (by decide) ?_
                    refine ki_icmp_ne (tgt := 109) hx hb dX5_told_96 (by decide) (by omega) (by omega) (by omega) (by omega) (fun c_50 => ?_) (fun c_50 => ?_)
                    · skip
                      refine lv_aload_n hx hb dX5_told_109 rfl (lv_at hl 1 rfl) ?_
                      refine va_get (D := (dC, dI)) (ci := 5) (v := .ref (o 12)) (C := RX5) (T := TX5) (N := 16) hx hb hts kt_X5 hown hK hP 0 rfl rfl 12 (by decide) (kx_word hG kq_19_xouts_49 rfl) (fun _ h9 => h9) rfl dX5_told_110 ?_
                      have hxz_51 : -2147483648 ≤ zL18 21 ∧ zL18 21 < 2147483648 := hRLL18.1.2.2.2.1 21
                      refine va_getN (D := (dC, dI)) (ci := 4) (v := .int (iz (zL18 21))) (C := RX4) (T := TX4) (N := 5) hx hb hts kt_X4 hown hK hP 24 rfl rfl 4 (by decide) (va_Nw.use rfl (kx_nf hG kq_21_xcalls_50)) (fun _ h9 => h9) rfl dX5_told_113 ?_
                      rw [← hQe]
                      refine vx_ret ?_
                      exact xk_iret (ov := (fun u : (Int) × (Nat → Nat) × (Nat → Nat) × (Nat → Int) × (Nat → Int → Int) × (Nat → Nat → Nat) × (Nat → Nat → Nat) × (Nat → Nat → Int) × (Nat → Nat → Int → Int) => match u with | (q, r', n', z', F', Er', En', Ez', EF') => some (.int (iz q)))) (post := (fun (u : (Int) × (Nat → Nat) × (Nat → Nat) × (Nat → Int) × (Nat → Int → Int) × (Nat → Nat → Nat) × (Nat → Nat → Nat) × (Nat → Nat → Int) × (Nat → Nat → Int → Int)) (dn dm : Nat) => match u with | (q, r', n', z', F', Er', En', Ez', EF') => xR [0, 1, 15, 17, 18, 19, 20, 21] [0, 1] [10, 11, 12, 13] [] N z F En Ez EF n' z' F' En' Ez' EF' ∧ (dn + xg n' ≤ xg n + 0 ∧ dm + xp n' ≤ xp n + 0) ∧ (True))) (ws := (fun u : (Int) × (Nat → Nat) × (Nat → Nat) × (Nat → Int) × (Nat → Int → Int) × (Nat → Nat → Nat) × (Nat → Nat → Nat) × (Nat → Nat → Int) × (Nat → Nat → Int → Int) => match u with | (q, r', n', z', F', Er', En', Ez', EF') => (xU cI cB cE o r' n' z' F' G (Eo 0 0) ++ eP cI N Eo Er' En' Ez' EF'))) (tys := xT cI cB cE) (z := zL18 21) (zL18 21, rL18, nL18, zL18, FL18, ErL18, EnL18, EzL18, EFL18) hx hb hr rfl hlocks rfl hP hD hK hS dX5_told_116 (fun dn dm hdn hdm => ⟨⟨hRLL18.1, hRLL18.2.1, hRLL18.2.2.1, hRLL18.2.2.2⟩, ⟨by omega, by omega⟩, trivial⟩) (by omega) (by omega)
                    · skip
                      refine lv_aload_n hx hb dX5_told_99 rfl (lv_at hl 1 rfl) ?_
                      refine va_get (D := (dC, dI)) (ci := 5) (v := .ref (o 12)) (C := RX5) (T := TX5) (N := 16) hx hb hts kt_X5 hown hK hP 0 rfl rfl 12 (by decide) (kx_word hG kq_19_xouts_49 rfl) (fun _ h9 => h9) rfl dX5_told_100 ?_
                      have hxz_52 : -2147483648 ≤ zL18 20 ∧ zL18 20 < 2147483648 := hRLL18.1.2.2.2.1 20
                      refine va_getN (D := (dC, dI)) (ci := 4) (v := .int (iz (zL18 20))) (C := RX4) (T := TX4) (N := 5) hx hb hts kt_X4 hown hK hP 24 rfl rfl 3 (by decide) (va_Nw.use rfl (kx_nf hG kq_21_xcalls_51)) (fun _ h9 => h9) rfl dX5_told_103 ?_
                      refine lv_goto (tgt := 116) hx hb dX5_told_106 (by decide) ?_
                      rw [← hQe]
                      refine vx_ret ?_
                      exact xk_iret (ov := (fun u : (Int) × (Nat → Nat) × (Nat → Nat) × (Nat → Int) × (Nat → Int → Int) × (Nat → Nat → Nat) × (Nat → Nat → Nat) × (Nat → Nat → Int) × (Nat → Nat → Int → Int) => match u with | (q, r', n', z', F', Er', En', Ez', EF') => some (.int (iz q)))) (post := (fun (u : (Int) × (Nat → Nat) × (Nat → Nat) × (Nat → Int) × (Nat → Int → Int) × (Nat → Nat → Nat) × (Nat → Nat → Nat) × (Nat → Nat → Int) × (Nat → Nat → Int → Int)) (dn dm : Nat) => match u with | (q, r', n', z', F', Er', En', Ez', EF') => xR [0, 1, 15, 17, 18, 19, 20, 21] [0, 1] [10, 11, 12, 13] [] N z F En Ez EF n' z' F' En' Ez' EF' ∧ (dn + xg n' ≤ xg n + 0 ∧ dm + xp n' ≤ xp n + 0) ∧ (True))) (ws := (fun u : (Int) × (Nat → Nat) × (Nat → Nat) × (Nat → Int) × (Nat → Int → Int) × (Nat → Nat → Nat) × (Nat → Nat → Nat) × (Nat → Nat → Int) × (Nat → Nat → Int → Int) => match u with | (q, r', n', z', F', Er', En', Ez', EF') => (xU cI cB cE o r' n' z' F' G (Eo 0 0) ++ eP cI N Eo Er' En' Ez' EF'))) (tys := xT cI cB cE) (z := zL18 20) (zL18 20, rL18, nL18, zL18, FL18, ErL18, EnL18, EzL18, EFL18) hx hb hr rfl hlocks rfl hP hD hK hS dX5_told_116 (fun dn dm hdn hdm => ⟨⟨hRLL18.1, hRLL18.2.1, hRLL18.2.2.1, hRLL18.2.2.2⟩, ⟨by omega, by omega⟩, trivial⟩) (by omega) (by omega)
                  · skip
                    refine lv_aload_n hx hb dX5_told_86 rfl (lv_at hl 1 rfl) ?_
                    refine va_get (D := (dC, dI)) (ci := 5) (v := .ref (o 12)) (C := RX5) (T := TX5) (N := 16) hx hb hts kt_X5 hown hK hP 0 rfl rfl 12 (by decide) (kx_word hG kq_19_xouts_49 rfl) (fun _ h9 => h9) rfl dX5_told_87 ?_
                    have hxz_53 : -2147483648 ≤ zL18 19 ∧ zL18 19 < 2147483648 := hRLL18.1.2.2.2.1 19
                    refine va_getN (D := (dC, dI)) (ci := 4) (v := .int (iz (zL18 19))) (C := RX4) (T := TX4) (N := 5) hx hb hts kt_X4 hown hK hP 24 rfl rfl 2 (by decide) (va_Nw.use rfl (kx_nf hG kq_21_xcalls_52)) (fun _ h9 => h9) rfl dX5_told_90 ?_
                    rw [← hQe]
                    refine vx_ret ?_
                    exact xk_iret (ov := (fun u : (Int) × (Nat → Nat) × (Nat → Nat) × (Nat → Int) × (Nat → Int → Int) × (Nat → Nat → Nat) × (Nat → Nat → Nat) × (Nat → Nat → Int) × (Nat → Nat → Int → Int) => match u with | (q, r', n', z', F', Er', En', Ez', EF') => some (.int (iz q)))) (post := (fun (u : (Int) × (Nat → Nat) × (Nat → Nat) × (Nat → Int) × (Nat → Int → Int) × (Nat → Nat → Nat) × (Nat → Nat → Nat) × (Nat → Nat → Int) × (Nat → Nat → Int → Int)) (dn dm : Nat) => match u with | (q, r', n', z', F', Er', En', Ez', EF') => xR [0, 1, 15, 17, 18, 19, 20, 21] [0, 1] [10, 11, 12, 13] [] N z F En Ez EF n' z' F' En' Ez' EF' ∧ (dn + xg n' ≤ xg n + 0 ∧ dm + xp n' ≤ xp n + 0) ∧ (True))) (ws := (fun u : (Int) × (Nat → Nat) × (Nat → Nat) × (Nat → Int) × (Nat → Int → Int) × (Nat → Nat → Nat) × (Nat → Nat → Nat) × (Nat → Nat → Int) × (Nat → Nat → Int → Int) => match u with | (q, r', n', z', F', Er', En', Ez', EF') => (xU cI cB cE o r' n' z' F' G (Eo 0 0) ++ eP cI N Eo Er' En' Ez' EF'))) (tys := xT cI cB cE) (z := zL18 19) (zL18 19, rL18, nL18, zL18, FL18, ErL18, EnL18, EzL18, EFL18) hx hb hr rfl hlocks rfl hP hD hK hS dX5_told_93 (fun dn dm hdn hdm => ⟨⟨hRLL18.1, hRLL18.2.1, hRLL18.2.2.1, hRLL18.2.2.2⟩, ⟨by omega, by omega⟩, trivial⟩) (by omega) (by omega)
                · skip
                  rw [← hQe]
                  exact ky_thr_IOB hx hb hlf hown hG hZ hS (hl.1.trans hml.symm) dX5_told_74 dX5_told_77 dX5_told_78 dX5_told_81 htab (Nat.le_of_ble_eq_true rfl) (Nat.le_of_ble_eq_true rfl) (show cv + 1 ≤ 1200 from (by omega)) (show sv + 6 ≤ 600000 from (by omega)) hlocks (⟨rfl, by first | trivial | omega⟩) (fun t hvm h1 h2 => ⟨(rL18, nL18, zL18, FL18, ErL18, EnL18, EzL18, EFL18), ⟨hRLL18.1, hRLL18.2.1, hRLL18.2.2.1, hRLL18.2.2.2⟩, hP.kept (fun k q hk => h2 q.1 (hP k q hk).lt), va_K.moved hvm hK, hD⟩) hS.2.2 (by omega) (by omega) (by omega) (by omega)
        · skip
          refine lv_aload_n hx hb dX5_told_42 rfl (lv_at hl 1 rfl) ?_
          refine va_get (D := (dC, dI)) (ci := 5) (v := .ref (o 12)) (C := RX5) (T := TX5) (N := 16) hx hb hts kt_X5 hown hK hP 0 rfl rfl 12 (by decide) (kx_word hG kq_19_xouts_49 rfl) (fun _ h9 => h9) rfl dX5_told_43 ?_
          have hxz_54 : -2147483648 ≤ zL18 18 ∧ zL18 18 < 2147483648 := hRLL18.1.2.2.2.1 18
          refine va_getN (D := (dC, dI)) (ci := 4) (v := .int (iz (zL18 18))) (C := RX4) (T := TX4) (N := 5) hx hb hts kt_X4 hown hK hP 24 rfl rfl 1 (by decide) (va_Nw.use rfl (kx_nf hG kq_21_xcalls_49)) (fun _ h9 => h9) rfl dX5_told_46 ?_
          rw [← hQe]
          refine vx_ret ?_
          exact xk_iret (ov := (fun u : (Int) × (Nat → Nat) × (Nat → Nat) × (Nat → Int) × (Nat → Int → Int) × (Nat → Nat → Nat) × (Nat → Nat → Nat) × (Nat → Nat → Int) × (Nat → Nat → Int → Int) => match u with | (q, r', n', z', F', Er', En', Ez', EF') => some (.int (iz q)))) (post := (fun (u : (Int) × (Nat → Nat) × (Nat → Nat) × (Nat → Int) × (Nat → Int → Int) × (Nat → Nat → Nat) × (Nat → Nat → Nat) × (Nat → Nat → Int) × (Nat → Nat → Int → Int)) (dn dm : Nat) => match u with | (q, r', n', z', F', Er', En', Ez', EF') => xR [0, 1, 15, 17, 18, 19, 20, 21] [0, 1] [10, 11, 12, 13] [] N z F En Ez EF n' z' F' En' Ez' EF' ∧ (dn + xg n' ≤ xg n + 0 ∧ dm + xp n' ≤ xp n + 0) ∧ (True))) (ws := (fun u : (Int) × (Nat → Nat) × (Nat → Nat) × (Nat → Int) × (Nat → Int → Int) × (Nat → Nat → Nat) × (Nat → Nat → Nat) × (Nat → Nat → Int) × (Nat → Nat → Int → Int) => match u with | (q, r', n', z', F', Er', En', Ez', EF') => (xU cI cB cE o r' n' z' F' G (Eo 0 0) ++ eP cI N Eo Er' En' Ez' EF'))) (tys := xT cI cB cE) (z := zL18 18) (zL18 18, rL18, nL18, zL18, FL18, ErL18, EnL18, EzL18, EFL18) hx hb hr rfl hlocks rfl hP hD hK hS dX5_told_49 (fun dn dm hdn hdm => ⟨⟨hRLL18.1, hRLL18.2.1, hRLL18.2.2.1, hRLL18.2.2.2⟩, ⟨by omega, by omega⟩, trivial⟩) (by omega) (by omega)
      · skip
        refine lv_aload_n hx hb dX5_told_26 rfl (lv_at hl 1 rfl) ?_
        refine lv_iload_n hx hb dX5_told_27 rfl (lv_at hl 0 rfl) ?_
        have hxG9 : xG N (zL18 12) G Eo := ⟨by omega, by omega, by omega, fun e9 h9 => hN4 e9 (by omega)⟩
        have hP : va_P (dC, dI) kxCl (xU cI cB cE o rL18 nL18 zL18 FL18 G (Eo 0 0) ++ eP cI N Eo ErL18 EnL18 EzL18 EFL18) H := hP
        have hD : va_D A (xU cI cB cE o rL18 nL18 zL18 FL18 G (Eo 0 0) ++ eP cI N Eo ErL18 EnL18 EzL18 EFL18) := hD
        have hFc := xw_free hD hS hA
        refine xk_call (va_runV (As := [.int (iz k)]) (rest := []) ⟨hx, hb, hml, hown, hts⟩ (y_warnOf l dC dI cI cB cE o rL18 nL18 zL18 FL18 G N Eo ErL18 EnL18 EzL18 EFL18 k H.size hRLL18.1 hxG9 hRLL18.2.2.1 (by omega) (by omega)) (cwV 1 hts (kx_gV kq_21_xcalls_53 kq_21_xcalls_54 kq_21_xcalls_55 kq_18_xrows_4 kq_21_xcalls_56 rfl) rfl rfl rfl (by decide +kernel) ⟨Nat.le_of_ble_eq_true rfl, Nat.le_of_ble_eq_true rfl⟩) ⟨kx_blind, va_recv hK hP (ci := 5) (q0 := 0) rfl rfl, kx_give (ws := []) (tys := []) hP hD hK hG hZ hS hFc⟩ rfl rfl hl.1 rfl (lv_room (Nat.le_of_ble_eq_true rfl)) dX5_told_28 ⟨show cv + 100 ≤ 1200 from (by omega), show sv + 42000 ≤ 600000 from (by omega)⟩) hS (fun q _ h => hFc q h) hFc (fun u dn_57 dm_58 t H locs ht hvm hq_55 hB hk1 hS => ?_)
        obtain ⟨r_59, n_60, z_61, F_62, Er_63, En_64, Ez_65, EF_66⟩ := u
        obtain ⟨hP, hK1, hD1⟩ := hB
        rw [ht] at hP
        have hD := hD1.weaken (fun _ q _ h => hFc _ h)
        obtain ⟨hR67, hC67, hq_55⟩ := hq_55
        have hok67 := hR67.1
        have hfr67 := hRLL18.2.1.tr (hR67.2.1.mono (S' := [0, 1, 15, 17, 18, 19, 20, 21]) (T' := [0, 1]) (by decide) (by decide))
        have hPE67 := hR67.2.2.1
        have hef67 := hRLL18.2.2.2.tr (hR67.2.2.2.mono (S' := [10, 11, 12, 13]) (T' := []) (by decide) (by decide))
        have hz67 : z_61 12 = (zL18 12) := hR67.2.1.1 12 (by decide)
        refine W.eq (g2 := F0 m 31 ls []) rfl ?_
        try dsimp only at hq_55
        refine lv_iinc (v := iz (k + 1)) (lv' := [(3, .int (iz (k + 1))), (0, .ref (o 15)), (1, .int (iz p0)), (2, .int (iz p1))]) hx hb dX5_told_31 hl (k := 0) rfl (iz_add k 1) (by decide) rfl (fun ls hl => ?_)
        refine lv_goto (tgt := 18) hx hb dX5_told_34 (by decide) ?_
        exact ih18 (k + 1) r_59 n_60 z_61 F_62 Er_63 En_64 Ez_65 EF_66 (cv + dn_57) (sv + dm_58) ⟨⟨hok67, hfr67, hPE67, hef67⟩, ⟨by omega, by omega⟩, (show z_61 12 = z 12 by omega), by omega⟩ (by omega) _ _ hP hD hS ls (lv_sub hl [0, 1, 2, 3] rfl)
  exact lp18 _ 0 r_20 n_21 (va_up (va_up z_22 17 z1_37) 18 z2_38) F_23 Er_24 En_25 Ez_26 EF_27 (((0 + dn_4) + dn_18) + 0) (((0 + dm_5) + dm_19) + 0) ⟨⟨hok40, hfr40, hPE28, hef28⟩, ⟨by omega, by omega⟩, (show z_22 12 = z 12 by omega), by omega⟩ (Nat.lt_succ_self _) _ _ hP hD hS ls (lv_sub hl [0, 1, 2, 3] rfl)
set_option maxHeartbeats 4000000 in
set_option maxRecDepth 100000 in
theorem y_at (l : Launch) (hlf : l.stackTraces = false) (dC : Nat → ClassId) (dI : Nat → Nat → Nat) (cI cB cE : ClassId) (o r n : Nat → Nat) (z : Nat → Int) (F : Nat → Int → Int) (G : Nat → Option Nat) (N : Nat) (Eo Er En : Nat → Nat → Nat) (Ez : Nat → Nat → Int) (EF : Nat → Nat → Int → Int) (p0 : Int) (sz : Nat) (hok : xOk n z F) (hxG : xG N (z 12) G Eo) (hPE : eA N En Ez EF) (hp01 : -2147483648 ≤ p0) (hp02 : p0 < 2147483648) : vx_Met l yX5_at [.code yX5_at cX5_at 2 (some .int)] ({ frames := 7, cells := 100, slots := 42000, locals := 100 }) (va_Pc [.ref (o 15), .int (iz p0)] (kx_Pre dC dI (xU cI cB cE o r n z F G (Eo 0 0) ++ eP cI N Eo Er En Ez EF) (xT cI cB cE) sz)) (xQ (fun u : (Int) × (Nat → Nat) × (Nat → Nat) × (Nat → Int) × (Nat → Int → Int) × (Nat → Nat → Nat) × (Nat → Nat → Nat) × (Nat → Nat → Int) × (Nat → Nat → Int → Int) => match u with | (q, r', n', z', F', Er', En', Ez', EF') => some (.int (iz q))) (fun (u : (Int) × (Nat → Nat) × (Nat → Nat) × (Nat → Int) × (Nat → Int → Int) × (Nat → Nat → Nat) × (Nat → Nat → Nat) × (Nat → Nat → Int) × (Nat → Nat → Int → Int)) (dn dm : Nat) => match u with | (q, r', n', z', F', Er', En', Ez', EF') => xR [] [] [] [] N z F En Ez EF n' z' F' En' Ez' EF' ∧ (dn + xg n' ≤ xg n + 0 ∧ dm + xp n' ≤ xp n + 0) ∧ (True)) (fun u t => kx_At dC dI (va_A (xU cI cB cE o r n z F G (Eo 0 0) ++ eP cI N Eo Er En Ez EF) sz) ((fun u : (Int) × (Nat → Nat) × (Nat → Nat) × (Nat → Int) × (Nat → Int → Int) × (Nat → Nat → Nat) × (Nat → Nat → Nat) × (Nat → Nat → Int) × (Nat → Nat → Int → Int) => match u with | (q, r', n', z', F', Er', En', Ez', EF') => (xU cI cB cE o r' n' z' F' G (Eo 0 0) ++ eP cI N Eo Er' En' Ez' EF')) u) (xT cI cB cE) t) (va_A (xU cI cB cE o r n z F G (Eo 0 0) ++ eP cI N Eo Er En Ez EF) sz)) (yX (fun E => (E = "java/lang/ArrayIndexOutOfBoundsException" ∧ (True))) 1 6 (fun t => ∃ u : (Nat → Nat) × (Nat → Nat) × (Nat → Int) × (Nat → Int → Int) × (Nat → Nat → Nat) × (Nat → Nat → Nat) × (Nat → Nat → Int) × (Nat → Nat → Int → Int), match u with | (r', n', z', F', Er', En', Ez', EF') => xR [] [] [] [] N z F En Ez EF n' z' F' En' Ez' EF' ∧ kx_At dC dI (va_A (xU cI cB cE o r n z F G (Eo 0 0) ++ eP cI N Eo Er En Ez EF) sz) (xU cI cB cE o r' n' z' F' G (Eo 0 0) ++ eP cI N Eo Er' En' Ez' EF') (xT cI cB cE) t) (va_A (xU cI cB cE o r n z F G (Eo 0 0) ++ eP cI N Eo Er En Ez EF) sz)) 100 42000 (va_A (xU cI cB cE o r n z F G (Eo 0 0) ++ eP cI N Eo Er En Ez EF) sz) := by
  refine vx_ofW (cc := cX5_at) (maxL := 2) (ret := (some .int)) (by decide) rfl ?_
  intro p e s m args below meth c s₁ B hml htab hv
  obtain ⟨rfl, hsz, hP, hK, hD0, hG, hZ⟩ := hv
  have hx := B.exec
  have hb := B.bytes
  have hr := B.returns
  have hts := kx_hts (a := ([.ref (o 15), .int (iz p0)] : List Value).toArray) hG
  have hown : s.vm.findClass RX5 = some m.cls := findClass_of_methodNamed B.named
  have hlocks := B.notSynchronized
  subst hsz
  have hD := hD0.self (sz := s.heap.size)
  generalize hAe : va_A (xU cI cB cE o r n z F G (Eo 0 0) ++ eP cI N Eo Er En Ez EF) s.heap.size = A at hD hZ ⊢
  have hA : ∀ q : Nat, s.heap.size ≤ q → A q := fun q h => by rw [← hAe]; exact Or.inr h
  have hS : va_S A s.heap s.heap [] := va_S.rf
  have hl := lv_entry ([.ref (o 15), .int (iz p0)]) (n := 2) (Nat.le_of_ble_eq_true rfl)
  rw [lg_entry_eq]
  generalize (lg_sl ([.ref (o 15), .int (iz p0)]) ++ List.replicate (2 - (lg_sl ([.ref (o 15), .int (iz p0)])).length) Slot.unset).toArray = ls at hl ⊢
  obtain ⟨hN1, hN2, hN3, hN4⟩ := hxG
  have hef : eFr [] [] En Ez EF En Ez EF := eFr.rf
  have hfr : xFr [] [] z F z F := xFr.rf
  have hxgl := xg_le n
  have hxpl := xp_le n
  have hl : lv_has ls 2 [(0, .ref (o 15)), (1, .int (iz p0))] := hl
  refine lv_iload_n hx hb dX5_at_0 rfl (lv_at hl 1 rfl) ?_
  refine ki_if_lt (tgt := 15) hx hb dX5_at_1 (by decide) (by omega) (by omega) (fun c_1 => ?_) (fun c_1 => ?_)
  · skip
    exact ky_thr_AOB hx hb hlf hown hG hZ hS (hl.1.trans hml.symm) dX5_at_15 dX5_at_18 dX5_at_19 dX5_at_22 htab (Nat.le_of_ble_eq_true rfl) (Nat.le_of_ble_eq_true rfl) (show 0 + 1 ≤ 100 from (by omega)) (show 0 + 6 ≤ 42000 from (by omega)) hlocks (⟨rfl, by first | trivial | omega⟩) (fun t hvm h1 h2 => ⟨(r, n, z, F, Er, En, Ez, EF), ⟨hok, hfr, hPE, hef⟩, hP.kept (fun k q hk => h2 q.1 (hP k q hk).lt), va_K.moved hvm hK, hD⟩) hS.2.2 (by omega) (by omega) (by omega) (by omega)
  · skip
    refine lv_iload_n hx hb dX5_at_4 rfl (lv_at hl 1 rfl) ?_
    refine lv_aload_n hx hb dX5_at_5 rfl (lv_at hl 0 rfl) ?_
    refine va_get (D := (dC, dI)) (ci := 5) (v := .ref (o 10)) (C := RX5) (T := TX5) (N := 16) hx hb hts kt_X5 hown hK hP 0 rfl rfl 14 (by decide) (kx_word hG kq_21_xcalls_57 rfl) (fun _ h9 => h9) rfl dX5_at_6 ?_
    have hxp_2 : 0 ≤ z 10 ∧ z 10 ≤ ((n 10 : Nat) : Int) ∧ (n 10 = 0 ∨ n 10 = 6000) := hok.2.1 10 (by decide)
    have hxz_3 : -2147483648 ≤ z 22 ∧ z 22 < 2147483648 := hok.2.2.2.1 22
    have hxb_4 : z 22 = 0 ∨ z 22 = 1 := hok.2.2.2.2 22 (by decide)
    have hPc := hP.sub (ws' := (pU cB (o 10) (r 10) (n 10) (z 10) (z 22) (F 10))) [25, 26] rfl
    refine xk_pure (va_runV (As := []) (rest := [.int (iz p0)]) ⟨hx, hb, hml, hown, hts⟩ (x_psize l dC dI cI cB cE (o 10) (r 10) (n 10) (z 10) (z 22) (F 10)  s.heap.size ) (cwV 0 hts (kx_gV kq_21_xcalls_58 kq_21_xcalls_59 kq_21_xcalls_60 kq_15_xspan_17 kq_21_xcalls_61 rfl) rfl rfl rfl (by decide +kernel) ⟨Nat.le_of_ble_eq_true rfl, Nat.le_of_ble_eq_true rfl⟩) ⟨pPre_blind, va_recv hK hPc (ci := 2) (q0 := 0) rfl rfl, pPre_give hPc hK hG⟩ rfl rfl hl.1 rfl (lv_room (Nat.le_of_ble_eq_true rfl)) dX5_at_9 ⟨show 0 + 0 ≤ 100 from (by omega), show 0 + 0 ≤ 42000 from (by omega)⟩) hS (fun z_6 locs hq_5 hS => ?_)
    refine W.eq (g2 := F0 m 12 ls [.int (iz z_6), .int (iz p0)]) rfl ?_
    try dsimp only at hq_5
    have hq_5 := hq_5.symm
    subst hq_5
    refine ki_icmp_lt (tgt := 23) hx hb dX5_at_12 (by decide) (by omega) (by omega) (by omega) (by omega) (fun c_7 => ?_) (fun c_7 => ?_)
    · skip
      refine lv_aload_n hx hb dX5_at_23 rfl (lv_at hl 0 rfl) ?_
      refine va_get (D := (dC, dI)) (ci := 5) (v := .ref (o 10)) (C := RX5) (T := TX5) (N := 16) hx hb hts kt_X5 hown hK hP 0 rfl rfl 14 (by decide) (kx_word hG kq_21_xcalls_57 rfl) (fun _ h9 => h9) rfl dX5_at_24 ?_
      refine lv_iload_n hx hb dX5_at_27 rfl (lv_at hl 1 rfl) ?_
      have hPc := hP.sub (ws' := (pU cB (o 10) (r 10) (n 10) (z 10) (z 22) (F 10))) [25, 26] rfl
      refine xk_pure (va_runV (As := [.int (iz p0)]) (rest := []) ⟨hx, hb, hml, hown, hts⟩ (x_pget l dC dI cI cB cE (o 10) (r 10) (n 10) (z 10) (z 22) (F 10) p0 s.heap.size (by omega) (by omega) (hok.2.2.1 10) (by omega) (by omega)) (cwV 1 hts (kx_gV kq_21_xcalls_62 kq_21_xcalls_63 kq_21_xcalls_64 kq_15_xspan_17 kq_21_xcalls_65 rfl) rfl rfl rfl (by decide +kernel) ⟨Nat.le_of_ble_eq_true rfl, Nat.le_of_ble_eq_true rfl⟩) ⟨pPre_blind, va_recv hK hPc (ci := 2) (q0 := 0) rfl rfl, pPre_give hPc hK hG⟩ rfl rfl hl.1 rfl (lv_room (Nat.le_of_ble_eq_true rfl)) dX5_at_28 ⟨show 0 + 0 ≤ 100 from (by omega), show 0 + 0 ≤ 42000 from (by omega)⟩) hS (fun z_9 locs hq_8 hS => ?_)
      refine W.eq (g2 := F0 m 31 ls [.int (iz z_9)]) rfl ?_
      try dsimp only at hq_8
      refine vx_ret ?_
      exact xk_iret (ov := (fun u : (Int) × (Nat → Nat) × (Nat → Nat) × (Nat → Int) × (Nat → Int → Int) × (Nat → Nat → Nat) × (Nat → Nat → Nat) × (Nat → Nat → Int) × (Nat → Nat → Int → Int) => match u with | (q, r', n', z', F', Er', En', Ez', EF') => some (.int (iz q)))) (post := (fun (u : (Int) × (Nat → Nat) × (Nat → Nat) × (Nat → Int) × (Nat → Int → Int) × (Nat → Nat → Nat) × (Nat → Nat → Nat) × (Nat → Nat → Int) × (Nat → Nat → Int → Int)) (dn dm : Nat) => match u with | (q, r', n', z', F', Er', En', Ez', EF') => xR [] [] [] [] N z F En Ez EF n' z' F' En' Ez' EF' ∧ (dn + xg n' ≤ xg n + 0 ∧ dm + xp n' ≤ xp n + 0) ∧ (True))) (ws := (fun u : (Int) × (Nat → Nat) × (Nat → Nat) × (Nat → Int) × (Nat → Int → Int) × (Nat → Nat → Nat) × (Nat → Nat → Nat) × (Nat → Nat → Int) × (Nat → Nat → Int → Int) => match u with | (q, r', n', z', F', Er', En', Ez', EF') => (xU cI cB cE o r' n' z' F' G (Eo 0 0) ++ eP cI N Eo Er' En' Ez' EF'))) (tys := xT cI cB cE) (z := z_9) (z_9, r, n, z, F, Er, En, Ez, EF) hx hb hr rfl hlocks rfl hP hD hK hS dX5_at_31 (fun dn dm hdn hdm => ⟨⟨hok, hfr, hPE, hef⟩, ⟨by omega, by omega⟩, trivial⟩) (by omega) (by omega)
    · skip
      exact ky_thr_AOB hx hb hlf hown hG hZ hS (hl.1.trans hml.symm) dX5_at_15 dX5_at_18 dX5_at_19 dX5_at_22 htab (Nat.le_of_ble_eq_true rfl) (Nat.le_of_ble_eq_true rfl) (show 0 + 1 ≤ 100 from (by omega)) (show 0 + 6 ≤ 42000 from (by omega)) hlocks (⟨rfl, by first | trivial | omega⟩) (fun t hvm h1 h2 => ⟨(r, n, z, F, Er, En, Ez, EF), ⟨hok, hfr, hPE, hef⟩, hP.kept (fun k q hk => h2 q.1 (hP k q hk).lt), va_K.moved hvm hK, hD⟩) hS.2.2 (by omega) (by omega) (by omega) (by omega)
set_option maxHeartbeats 4000000 in
set_option maxRecDepth 100000 in
theorem y_see (l : Launch) (hlf : l.stackTraces = false) (dC : Nat → ClassId) (dI : Nat → Nat → Nat) (cI cB cE : ClassId) (o r n : Nat → Nat) (z : Nat → Int) (F : Nat → Int → Int) (G : Nat → Option Nat) (N : Nat) (Eo Er En : Nat → Nat → Nat) (Ez : Nat → Nat → Int) (EF : Nat → Nat → Int → Int) (p0 : Int) (p1 : Int) (sz : Nat) (hok : xOk n z F) (hxG : xG N (z 12) G Eo) (hPE : eA N En Ez EF) (hp01 : -2147483648 ≤ p0) (hp02 : p0 < 2147483648) (hp11 : -2147483648 ≤ p1) (hp12 : p1 < 2147483648) : vx_Met l yX5_see [.code yX5_see cX5_see 4 (some .int)] ({ frames := 8, cells := 150, slots := 46000, locals := 121 }) (va_Pc [.ref (o 15), .int (iz p0), .int (iz p1)] (kx_Pre dC dI (xU cI cB cE o r n z F G (Eo 0 0) ++ eP cI N Eo Er En Ez EF) (xT cI cB cE) sz)) (xQ (fun u : (Int) × (Nat → Nat) × (Nat → Nat) × (Nat → Int) × (Nat → Int → Int) × (Nat → Nat → Nat) × (Nat → Nat → Nat) × (Nat → Nat → Int) × (Nat → Nat → Int → Int) => match u with | (q, r', n', z', F', Er', En', Ez', EF') => some (.int (iz q))) (fun (u : (Int) × (Nat → Nat) × (Nat → Nat) × (Nat → Int) × (Nat → Int → Int) × (Nat → Nat → Nat) × (Nat → Nat → Nat) × (Nat → Nat → Int) × (Nat → Nat → Int → Int)) (dn dm : Nat) => match u with | (q, r', n', z', F', Er', En', Ez', EF') => xR [] [] [3] [3] N z F En Ez EF n' z' F' En' Ez' EF' ∧ (dn + xg n' ≤ xg n + 10 ∧ dm + xp n' ≤ xp n + 1700) ∧ (q = 0 ∨ q = 1)) (fun u t => kx_At dC dI (va_A (xU cI cB cE o r n z F G (Eo 0 0) ++ eP cI N Eo Er En Ez EF) sz) ((fun u : (Int) × (Nat → Nat) × (Nat → Nat) × (Nat → Int) × (Nat → Int → Int) × (Nat → Nat → Nat) × (Nat → Nat → Nat) × (Nat → Nat → Int) × (Nat → Nat → Int → Int) => match u with | (q, r', n', z', F', Er', En', Ez', EF') => (xU cI cB cE o r' n' z' F' G (Eo 0 0) ++ eP cI N Eo Er' En' Ez' EF')) u) (xT cI cB cE) t) (va_A (xU cI cB cE o r n z F G (Eo 0 0) ++ eP cI N Eo Er En Ez EF) sz)) (yX (fun E => (E = "java/util/NoSuchElementException" ∧ (True)) ∨ (E = "java/lang/UnsupportedOperationException" ∧ (True))) 3 20 (fun t => ∃ u : (Nat → Nat) × (Nat → Nat) × (Nat → Int) × (Nat → Int → Int) × (Nat → Nat → Nat) × (Nat → Nat → Nat) × (Nat → Nat → Int) × (Nat → Nat → Int → Int), match u with | (r', n', z', F', Er', En', Ez', EF') => xR [] [] [] [] N z F En Ez EF n' z' F' En' Ez' EF' ∧ kx_At dC dI (va_A (xU cI cB cE o r n z F G (Eo 0 0) ++ eP cI N Eo Er En Ez EF) sz) (xU cI cB cE o r' n' z' F' G (Eo 0 0) ++ eP cI N Eo Er' En' Ez' EF') (xT cI cB cE) t) (va_A (xU cI cB cE o r n z F G (Eo 0 0) ++ eP cI N Eo Er En Ez EF) sz)) 150 46000 (va_A (xU cI cB cE o r n z F G (Eo 0 0) ++ eP cI N Eo Er En Ez EF) sz) := by
  refine vx_ofW (cc := cX5_see) (maxL := 4) (ret := (some .int)) (by decide) rfl ?_
  intro p e s m args below meth c s₁ B hml htab hv
  obtain ⟨rfl, hsz, hP, hK, hD0, hG, hZ⟩ := hv
  have hx := B.exec
  have hb := B.bytes
  have hr := B.returns
  have hts := kx_hts (a := ([.ref (o 15), .int (iz p0), .int (iz p1)] : List Value).toArray) hG
  have hown : s.vm.findClass RX5 = some m.cls := findClass_of_methodNamed B.named
  have hlocks := B.notSynchronized
  subst hsz
  have hD := hD0.self (sz := s.heap.size)
  generalize hAe : va_A (xU cI cB cE o r n z F G (Eo 0 0) ++ eP cI N Eo Er En Ez EF) s.heap.size = A at hD hZ ⊢
  have hA : ∀ q : Nat, s.heap.size ≤ q → A q := fun q h => by rw [← hAe]; exact Or.inr h
  have hS : va_S A s.heap s.heap [] := va_S.rf
  have hl := lv_entry ([.ref (o 15), .int (iz p0), .int (iz p1)]) (n := 4) (Nat.le_of_ble_eq_true rfl)
  rw [lg_entry_eq]
  generalize (lg_sl ([.ref (o 15), .int (iz p0), .int (iz p1)]) ++ List.replicate (4 - (lg_sl ([.ref (o 15), .int (iz p0), .int (iz p1)])).length) Slot.unset).toArray = ls at hl ⊢
  obtain ⟨hN1, hN2, hN3, hN4⟩ := hxG
  have hef : eFr [3] [3] En Ez EF En Ez EF := eFr.rf
  have hfr : xFr [] [] z F z F := xFr.rf
  have hxgl := xg_le n
  have hxpl := xp_le n
  have hl : lv_has ls 4 [(0, .ref (o 15)), (1, .int (iz p0)), (2, .int (iz p1))] := hl
  refine lv_aload_n hx hb dX5_see_0 rfl (lv_at hl 0 rfl) ?_
  refine lv_iload_n hx hb dX5_see_1 rfl (lv_at hl 1 rfl) ?_
  have hxz_1 : -2147483648 ≤ z 12 ∧ z 12 < 2147483648 := hok.2.2.2.1 12
  have hxG9 : xG N (z 12) G Eo := ⟨by omega, by omega, by omega, fun e9 h9 => hN4 e9 (by omega)⟩
  have hP : va_P (dC, dI) kxCl (xU cI cB cE o r n z F G (Eo 0 0) ++ eP cI N Eo Er En Ez EF) s.heap := hP
  have hD : va_D A (xU cI cB cE o r n z F G (Eo 0 0) ++ eP cI N Eo Er En Ez EF) := hD
  have hFc := xw_free hD hS hA
  refine yk_call (vx_runV (As := [.int (iz p0)]) (rest := []) ⟨hx, hb, hml, hown, hts⟩ (y_needEntry l hlf dC dI cI cB cE o r n z F G N Eo Er En Ez EF p0 s.heap.size hok hxG9 hPE (by omega) (by omega)) (cwV 1 hts (kx_gV kq_21_xcalls_10 kq_21_xcalls_11 kq_21_xcalls_12 kq_18_xrows_4 kq_21_xcalls_13 rfl) rfl rfl rfl (by decide +kernel) ⟨Nat.le_of_ble_eq_true rfl, Nat.le_of_ble_eq_true rfl⟩) ⟨kx_blind, va_recv hK hP (ci := 5) (q0 := 0) rfl rfl, kx_give (ws := []) (tys := []) hP hD hK hG hZ hS hFc⟩ rfl rfl hl.1 rfl (lv_room (Nat.le_of_ble_eq_true rfl)) dX5_see_2 ⟨show 0 + 1 ≤ 150 from (by omega), show 0 + 6 ≤ 46000 from (by omega)⟩) hS (fun q _ h => hFc q h) hFc (fun E ce q9 t H1 locs ht hvm hEx hBx hk1 hS hcell hcv hcl => ?_) (fun u dn_4 dm_5 t H locs ht hvm hq_2 hB hk1 hS => ?_)
  · skip
    exact ky_out (fun x hx => (htab x hx).elim) hlocks hcell hcv hcl (by obtain ⟨rfl, h9⟩ := hEx; exact Or.inl ⟨rfl, by first | trivial | omega⟩) (fun t9 ht9 hvm9 => by obtain ⟨⟨r8, n8, z8, F8, Er8, En8, Ez8, EF8⟩, hR8, hP8, hK8, hD8⟩ := hBx; exact ⟨(r8, n8, z8, F8, Er8, En8, Ez8, EF8), hR8, (by rw [ht9, ← ht]; exact hP8), va_K.moved hvm9 hK, hD8.weaken (fun _ q _ h => hFc _ h)⟩) hS hS.2.2 (by omega) (by omega) (by omega) (by omega)
  · skip
    obtain ⟨r_6, n_7, z_8, F_9, Er_10, En_11, Ez_12, EF_13⟩ := u
    obtain ⟨hP, hK1, hD1⟩ := hB
    rw [ht] at hP
    have hD := hD1.weaken (fun _ q _ h => hFc _ h)
    obtain ⟨hR14, hC14, hq_2⟩ := hq_2
    obtain ⟨rfl, rfl, rfl, rfl, rfl, rfl, rfl, hq_2⟩ := hq_2
    obtain ⟨rfl, hq_2⟩ := hq_2
    refine W.eq (g2 := F0 m 5 ls []) rfl ?_
    refine lv_aload_n hx hb dX5_see_5 rfl (lv_at hl 0 rfl) ?_
    refine lv_iload_n hx hb dX5_see_6 rfl (lv_at hl 2 rfl) ?_
    have hxG9 : xG N (z 12) G Eo := ⟨by omega, by omega, by omega, fun e9 h9 => hN4 e9 (by omega)⟩
    have hP : va_P (dC, dI) kxCl (xU cI cB cE o r n z F G (Eo 0 0) ++ eP cI N Eo Er En Ez EF) H := hP
    have hD : va_D A (xU cI cB cE o r n z F G (Eo 0 0) ++ eP cI N Eo Er En Ez EF) := hD
    have hFc := xw_free hD hS hA
    refine yk_call (vx_runV (As := [.int (iz p1)]) (rest := []) ⟨hx, hb, hml, hown, hts⟩ (y_needEntry l hlf dC dI cI cB cE o r n z F G N Eo Er En Ez EF p1 H.size hok hxG9 hPE (by omega) (by omega)) (cwV 1 hts (kx_gV kq_21_xcalls_10 kq_21_xcalls_11 kq_21_xcalls_12 kq_18_xrows_4 kq_21_xcalls_13 rfl) rfl rfl rfl (by decide +kernel) ⟨Nat.le_of_ble_eq_true rfl, Nat.le_of_ble_eq_true rfl⟩) ⟨kx_blind, va_recv hK hP (ci := 5) (q0 := 0) rfl rfl, kx_give (ws := []) (tys := []) hP hD hK hG hZ hS hFc⟩ rfl rfl hl.1 rfl (lv_room (Nat.le_of_ble_eq_true rfl)) dX5_see_7 ⟨show (0 + dn_4) + 1 ≤ 150 from (by omega), show (0 + dm_5) + 6 ≤ 46000 from (by omega)⟩) hS (fun q _ h => hFc q h) hFc (fun E ce q9 t H1 locs ht hvm hEx hBx hk1 hS hcell hcv hcl => ?_) (fun u dn_17 dm_18 t H locs ht hvm hq_15 hB hk1 hS => ?_)
    · skip
      exact ky_out (fun x hx => (htab x hx).elim) hlocks hcell hcv hcl (by obtain ⟨rfl, h9⟩ := hEx; exact Or.inl ⟨rfl, by first | trivial | omega⟩) (fun t9 ht9 hvm9 => by obtain ⟨⟨r8, n8, z8, F8, Er8, En8, Ez8, EF8⟩, hR8, hP8, hK8, hD8⟩ := hBx; exact ⟨(r8, n8, z8, F8, Er8, En8, Ez8, EF8), hR8, (by rw [ht9, ← ht]; exact hP8), va_K.moved hvm9 hK, hD8.weaken (fun _ q _ h => hFc _ h)⟩) hS hS.2.2 (by omega) (by omega) (by omega) (by omega)
    · skip
      obtain ⟨r_19, n_20, z_21, F_22, Er_23, En_24, Ez_25, EF_26⟩ := u
      obtain ⟨hP, hK1, hD1⟩ := hB
      rw [ht] at hP
      have hD := hD1.weaken (fun _ q _ h => hFc _ h)
      obtain ⟨hR27, hC27, hq_15⟩ := hq_15
      obtain ⟨rfl, rfl, rfl, rfl, rfl, rfl, rfl, hq_15⟩ := hq_15
      obtain ⟨rfl, hq_15⟩ := hq_15
      refine W.eq (g2 := F0 m 10 ls []) rfl ?_
      refine lv_aload_n hx hb dX5_see_10 rfl (lv_at hl 0 rfl) ?_
      refine lv_iload_n hx hb dX5_see_11 rfl (lv_at hl 1 rfl) ?_
      have hxG9 : xG N (z 12) G Eo := ⟨by omega, by omega, by omega, fun e9 h9 => hN4 e9 (by omega)⟩
      have hP : va_P (dC, dI) kxCl (xU cI cB cE o r n z F G (Eo 0 0) ++ eP cI N Eo Er En Ez EF) H := hP
      refine xk_pure (va_runV (As := [.int (iz p0)]) (rest := []) ⟨hx, hb, hml, hown, hts⟩ (y_known l dC dI cI cB cE o r n z F G N Eo Er En Ez EF p0 H.size hok hxG9 hPE (by omega) (by omega)) (cwV 1 hts (kx_gV kq_18_xrows_8 kq_18_xrows_9 kq_18_xrows_10 kq_18_xrows_4 kq_18_xrows_11 rfl) rfl rfl rfl (by decide +kernel) ⟨Nat.le_of_ble_eq_true rfl, Nat.le_of_ble_eq_true rfl⟩) ⟨pPre_blind, va_recv hK hP (ci := 5) (q0 := 0) rfl rfl, pPre_give hP hK hG⟩ rfl rfl hl.1 rfl (lv_room (Nat.le_of_ble_eq_true rfl)) dX5_see_12 ⟨show ((0 + dn_4) + dn_17) + 0 ≤ 150 from (by omega), show ((0 + dm_5) + dm_18) + 0 ≤ 46000 from (by omega)⟩) hS (fun z_29 locs hq_28 hS => ?_)
      refine W.eq (g2 := F0 m 15 ls [.ref z_29.toNat]) rfl ?_
      try dsimp only at hq_28
      obtain ⟨j30, hj30, ez30, hje30⟩ := hq_28
      subst ez30
      refine W.eq (g2 := F0 m 15 ls [.ref (Eo j30 0)]) rfl ?_
      have ej30 : j30 = (p0 + 1).toNat := by omega
      subst ej30
      have hP := eP_foc hj30 hP
      have hD := eD_foc hj30 hD
      refine va_getN (D := (dC, dI)) (ci := 0) (v := .ref (Eo ((p0 + 1).toNat) 4)) (C := RX0) (T := TX0) (N := 12) hx hb hts kt_X0 hown hK hP 29 rfl rfl 6 (by decide) (va_Nw.use rfl (kx_nf hG kq_19_xouts_32)) (fun _ h9 => h9) rfl dX5_see_15 ?_
      refine lv_astore_n (lv' := [(3, .ref (Eo ((p0 + 1).toNat) 4)), (0, .ref (o 15)), (1, .int (iz p0)), (2, .int (iz p1))]) hx hb dX5_see_18 rfl hl (by decide) rfl (fun ls hl => ?_)
      refine lv_aload_n hx hb dX5_see_19 rfl (lv_at hl 0 rfl) ?_
      have he_31 : 0 ≤ Ez ((p0 + 1).toNat) 3 ∧ Ez ((p0 + 1).toNat) 3 ≤ ((En ((p0 + 1).toNat) 3 : Nat) : Int) ∧ ((En ((p0 + 1).toNat) 3 : Nat) : Int) ≤ 5 := (hPE ((p0 + 1).toNat) hj30).1 3 (by decide)
      have hPc := hP.sub (ws' := (iU cI 5 (Eo ((p0 + 1).toNat) 4) (Er ((p0 + 1).toNat) 3) (En ((p0 + 1).toNat) 3) (Ez ((p0 + 1).toNat) 3) (EF ((p0 + 1).toNat) 3))) [36, 37] rfl
      refine xk_pure (va_runV (As := []) (rest := []) ⟨hx, hb, hml, hown, hts⟩ (x_isFull l dC dI cI cB cE 5 (Eo ((p0 + 1).toNat) 4) (Er ((p0 + 1).toNat) 3) (En ((p0 + 1).toNat) 3) (Ez ((p0 + 1).toNat) 3) (EF ((p0 + 1).toNat) 3)  H.size (by omega)) (cwV 0 hts (kx_gV kq_21_xcalls_1 kq_15_xspan_35 kq_15_xspan_36 kq_13_xints_6 kq_15_xspan_37 rfl) rfl rfl rfl (by decide +kernel) ⟨Nat.le_of_ble_eq_true rfl, Nat.le_of_ble_eq_true rfl⟩) ⟨pPre_blind, va_recv hK hPc (ci := 1) (q0 := 0) rfl rfl, pPre_give hPc hK hG⟩ rfl rfl hl.1 rfl (lv_room (Nat.le_of_ble_eq_true rfl)) dX5_see_20 ⟨show ((0 + dn_4) + dn_17) + 0 ≤ 150 from (by omega), show ((0 + dm_5) + dm_18) + 0 ≤ 46000 from (by omega)⟩) hS (fun z_33 locs hq_32 hS => ?_)
      refine W.eq (g2 := F0 m 23 ls [.int (iz z_33)]) rfl ?_
      try dsimp only at hq_32
      rcases hq_32 with ⟨rfl, hq_32⟩ | ⟨rfl, hq_32⟩
      · skip
        refine ki_if_eq (tgt := 34) hx hb dX5_see_23 (by decide) (by omega) (by omega) (fun c_34 => ?_) (fun c_34 => ?_)
        · omega
        · skip
          have hP := eP_un0 hj30 hP
          have hD := eD_un0 hj30 hD
          exact ky_thr_UOE hx hb hlf hown hG hZ hS (hl.1.trans hml.symm) dX5_see_26 dX5_see_29 dX5_see_30 dX5_see_33 htab (Nat.le_of_ble_eq_true rfl) (Nat.le_of_ble_eq_true rfl) (show ((0 + dn_4) + dn_17) + 1 ≤ 150 from (by omega)) (show ((0 + dm_5) + dm_18) + 6 ≤ 46000 from (by omega)) hlocks (Or.inr (⟨rfl, by first | trivial | omega⟩)) (fun t hvm h1 h2 => ⟨(r, n, z, F, Er, En, Ez, EF), ⟨hok, xFr.rf, hPE, eFr.rf⟩, hP.kept (fun k q hk => h2 q.1 (hP k q hk).lt), va_K.moved hvm hK, hD⟩) hS.2.2 (by omega) (by omega) (by omega) (by omega)
      · skip
        refine ki_if_eq (tgt := 34) hx hb dX5_see_23 (by decide) (by omega) (by omega) (fun c_35 => ?_) (fun c_35 => ?_)
        · skip
          refine lv_iload_n hx hb dX5_see_34 rfl (lv_at hl 2 rfl) ?_
          refine lv_iload_n hx hb dX5_see_35 rfl (lv_at hl 3 rfl) ?_
          refine ki_icmp_eq (tgt := 47) hx hb dX5_see_36 (by decide) (by omega) (by omega) (by omega) (by omega) (fun c_36 => ?_) (fun c_36 => ?_)
          · skip
            refine lv_iconst (v := iz 0) hx hb dX5_see_47 (by decide) ?_
            have hP := eP_un0 hj30 hP
            have hD := eD_un0 hj30 hD
            refine vx_ret ?_
            exact xk_iret (ov := (fun u : (Int) × (Nat → Nat) × (Nat → Nat) × (Nat → Int) × (Nat → Int → Int) × (Nat → Nat → Nat) × (Nat → Nat → Nat) × (Nat → Nat → Int) × (Nat → Nat → Int → Int) => match u with | (q, r', n', z', F', Er', En', Ez', EF') => some (.int (iz q)))) (post := (fun (u : (Int) × (Nat → Nat) × (Nat → Nat) × (Nat → Int) × (Nat → Int → Int) × (Nat → Nat → Nat) × (Nat → Nat → Nat) × (Nat → Nat → Int) × (Nat → Nat → Int → Int)) (dn dm : Nat) => match u with | (q, r', n', z', F', Er', En', Ez', EF') => xR [] [] [3] [3] N z F En Ez EF n' z' F' En' Ez' EF' ∧ (dn + xg n' ≤ xg n + 10 ∧ dm + xp n' ≤ xp n + 1700) ∧ (q = 0 ∨ q = 1))) (ws := (fun u : (Int) × (Nat → Nat) × (Nat → Nat) × (Nat → Int) × (Nat → Int → Int) × (Nat → Nat → Nat) × (Nat → Nat → Nat) × (Nat → Nat → Int) × (Nat → Nat → Int → Int) => match u with | (q, r', n', z', F', Er', En', Ez', EF') => (xU cI cB cE o r' n' z' F' G (Eo 0 0) ++ eP cI N Eo Er' En' Ez' EF'))) (tys := xT cI cB cE) (z := 0) (0, r, n, z, F, Er, En, Ez, EF) hx hb hr rfl hlocks rfl hP hD hK hS dX5_see_48 (fun dn dm hdn hdm => ⟨⟨hok, hfr, hPE, hef⟩, ⟨by omega, by omega⟩, by omega⟩) (by omega) (by omega)
          · skip
            refine lv_aload_n hx hb dX5_see_39 rfl (lv_at hl 0 rfl) ?_
            refine lv_iload_n hx hb dX5_see_40 rfl (lv_at hl 3 rfl) ?_
            have hPc := hP.sub (ws' := (iU cI 5 (Eo ((p0 + 1).toNat) 4) (Er ((p0 + 1).toNat) 3) (En ((p0 + 1).toNat) 3) (Ez ((p0 + 1).toNat) 3) (EF ((p0 + 1).toNat) 3))) [36, 37] rfl
            refine xk_pure (va_runV (As := [.int (iz p1)]) (rest := []) ⟨hx, hb, hml, hown, hts⟩ (x_has l dC dI cI cB cE 5 (Eo ((p0 + 1).toNat) 4) (Er ((p0 + 1).toNat) 3) (En ((p0 + 1).toNat) 3) (Ez ((p0 + 1).toNat) 3) (EF ((p0 + 1).toNat) 3) p1 H.size (by omega) ((hPE ((p0 + 1).toNat) hj30).2.1 3) (by omega) (by omega)) (cwV 1 hts (kx_gV kq_19_xouts_28 kq_19_xouts_29 kq_19_xouts_30 kq_13_xints_6 kq_19_xouts_31 rfl) rfl rfl rfl (by decide +kernel) ⟨Nat.le_of_ble_eq_true rfl, Nat.le_of_ble_eq_true rfl⟩) ⟨pPre_blind, va_recv hK hPc (ci := 1) (q0 := 0) rfl rfl, pPre_give hPc hK hG⟩ rfl rfl hl.1 rfl (lv_room (Nat.le_of_ble_eq_true rfl)) dX5_see_41 ⟨show ((0 + dn_4) + dn_17) + 0 ≤ 150 from (by omega), show ((0 + dm_5) + dm_18) + 0 ≤ 46000 from (by omega)⟩) hS (fun z_38 locs hq_37 hS => ?_)
            refine W.eq (g2 := F0 m 44 ls [.int (iz z_38)]) rfl ?_
            try dsimp only at hq_37
            refine ki_if_eq (tgt := 49) hx hb dX5_see_44 (by decide) (by omega) (by omega) (fun c_39 => ?_) (fun c_39 => ?_)
            · skip
              refine lv_aload_n hx hb dX5_see_49 rfl (lv_at hl 0 rfl) ?_
              refine lv_iload_n hx hb dX5_see_50 rfl (lv_at hl 3 rfl) ?_
              have hPc := hP.sub (ws' := (iU cI 5 (Eo ((p0 + 1).toNat) 4) (Er ((p0 + 1).toNat) 3) (En ((p0 + 1).toNat) 3) (Ez ((p0 + 1).toNat) 3) (EF ((p0 + 1).toNat) 3))) [36, 37] rfl
              have hDc := hD.sub (ws' := (iU cI 5 (Eo ((p0 + 1).toNat) 4) (Er ((p0 + 1).toNat) 3) (En ((p0 + 1).toNat) 3) (Ez ((p0 + 1).toNat) 3) (EF ((p0 + 1).toNat) 3))) [36, 37] (by decide) rfl
              have hFc := va_free (wc := (iU cI 5 (Eo ((p0 + 1).toNat) 4) (Er ((p0 + 1).toNat) 3) (En ((p0 + 1).toNat) 3) (Ez ((p0 + 1).toNat) 3) (EF ((p0 + 1).toNat) 3))) hD hS hA [36, 37] rfl
              refine xk_call (va_runV (As := [.int (iz p1)]) (rest := []) ⟨hx, hb, hml, hown, hts⟩ (x_add l dC dI cI cB cE 5 (Eo ((p0 + 1).toNat) 4) (Er ((p0 + 1).toNat) 3) (En ((p0 + 1).toNat) 3) (Ez ((p0 + 1).toNat) 3) (EF ((p0 + 1).toNat) 3) p1 H.size (by omega) ((hPE ((p0 + 1).toNat) hj30).2.1 3) (by omega) (by omega)) (cwV 1 hts (kx_gV kq_18_xrows_39 kq_15_xspan_46 kq_15_xspan_47 kq_13_xints_6 kq_15_xspan_48 rfl) rfl rfl rfl (by decide +kernel) ⟨Nat.le_of_ble_eq_true rfl, Nat.le_of_ble_eq_true rfl⟩) ⟨kx_blind, va_recv hK hPc (ci := 1) (q0 := 0) rfl rfl, kx_give (ws := []) (tys := []) hPc hDc hK hG hZ hS hFc⟩ rfl rfl hl.1 rfl (lv_room (Nat.le_of_ble_eq_true rfl)) dX5_see_51 ⟨show ((0 + dn_4) + dn_17) + 1 ≤ 150 from (by omega), show ((0 + dm_5) + dm_18) + 1600 ≤ 46000 from (by omega)⟩) hS (fun q _ h => hFc q h) hFc (fun u dn_41 dm_42 t H locs ht hvm hq_40 hB hk1 hS => ?_)
              obtain ⟨r_43, n_44, z_45, F_46⟩ := u
              obtain ⟨hP1, hK1, hD1⟩ := hB
              rw [ht] at hP1
              obtain ⟨hP, hD⟩ := xj_pool (wr := [(o 15, .inr (5, [.ref (o 16), .ref (Eo 0 0), .int (iz (z 12)), .int (iz (z 13)), .int (iz (z 14)), .ref (o 0), .ref (o 1), .int (iz (z 15)), .ref (o 13), .ref (o 14), .int (iz (z 16)), .ref (o 2), .ref (o 12), .ref (o 3), .ref (o 10), .ref (o 11)])), (o 16, .inl (cE, 80, .inr (.inr (.inr (.inr G))))), (o 0, .inr (1, [.int (iz 80), .ref (r 0), .int (iz (z 0))])), (r 0, .inl (cI, n 0, .inl (iA (F 0)))), (o 1, .inr (1, [.int (iz 80), .ref (r 1), .int (iz (z 1))])), (r 1, .inl (cI, n 1, .inl (iA (F 1)))), (o 2, .inr (1, [.int (iz 80), .ref (r 2), .int (iz (z 2))])), (r 2, .inl (cI, n 2, .inl (iA (F 2)))), (o 3, .inr (1, [.int (iz 80), .ref (r 3), .int (iz (z 3))])), (r 3, .inl (cI, n 3, .inl (iA (F 3)))), (o 13, .inr (3, [.ref (o 4), .ref (o 5), .ref (o 6)])), (o 4, .inr (1, [.int (iz 1600), .ref (r 4), .int (iz (z 4))])), (r 4, .inl (cI, n 4, .inl (iA (F 4)))), (o 5, .inr (1, [.int (iz 1600), .ref (r 5), .int (iz (z 5))])), (r 5, .inl (cI, n 5, .inl (iA (F 5)))), (o 6, .inr (1, [.int (iz 1600), .ref (r 6), .int (iz (z 6))])), (r 6, .inl (cI, n 6, .inl (iA (F 6)))), (o 14, .inr (3, [.ref (o 7), .ref (o 8), .ref (o 9)])), (o 7, .inr (1, [.int (iz 1600), .ref (r 7), .int (iz (z 7))])), (r 7, .inl (cI, n 7, .inl (iA (F 7)))), (o 8, .inr (1, [.int (iz 1600), .ref (r 8), .int (iz (z 8))])), (r 8, .inl (cI, n 8, .inl (iA (F 8)))), (o 9, .inr (1, [.int (iz 1600), .ref (r 9), .int (iz (z 9))])), (r 9, .inl (cI, n 9, .inl (iA (F 9)))), (o 12, .inr (4, [.int (iz (z 17)), .int (iz (z 18)), .int (iz (z 19)), .int (iz (z 20)), .int (iz (z 21))])), (o 10, .inr (2, [.ref (r 10), .int (iz (z 10)), .int (iz (z 22))])), (r 10, .inl (cB, n 10, .inl (iA (F 10)))), (o 11, .inr (2, [.ref (r 11), .int (iz (z 11)), .int (iz (z 23))])), (r 11, .inl (cB, n 11, .inl (iA (F 11)))), (Eo ((p0 + 1).toNat) 0, .inr (0, [.int (iz (Ez ((p0 + 1).toNat) 7)), .int (iz (Ez ((p0 + 1).toNat) 8)), .ref (Eo ((p0 + 1).toNat) 1), .ref (Eo ((p0 + 1).toNat) 2), .ref (Eo ((p0 + 1).toNat) 3), .ref (Eo ((p0 + 1).toNat) 5), .ref (Eo ((p0 + 1).toNat) 4), .int (iz (Ez ((p0 + 1).toNat) 9)), .int (iz (Ez ((p0 + 1).toNat) 10)), .int (iz (Ez ((p0 + 1).toNat) 11)), .int (iz (Ez ((p0 + 1).toNat) 12)), .int (iz (Ez ((p0 + 1).toNat) 13))])), (Eo ((p0 + 1).toNat) 1, .inr (1, [.int (iz 20), .ref (Er ((p0 + 1).toNat) 0), .int (iz (Ez ((p0 + 1).toNat) 0))])), (Er ((p0 + 1).toNat) 0, .inl (cI, En ((p0 + 1).toNat) 0, .inl (iA (EF ((p0 + 1).toNat) 0)))), (Eo ((p0 + 1).toNat) 2, .inr (1, [.int (iz 20), .ref (Er ((p0 + 1).toNat) 1), .int (iz (Ez ((p0 + 1).toNat) 1))])), (Er ((p0 + 1).toNat) 1, .inl (cI, En ((p0 + 1).toNat) 1, .inl (iA (EF ((p0 + 1).toNat) 1)))), (Eo ((p0 + 1).toNat) 3, .inr (1, [.int (iz 40), .ref (Er ((p0 + 1).toNat) 2), .int (iz (Ez ((p0 + 1).toNat) 2))])), (Er ((p0 + 1).toNat) 2, .inl (cI, En ((p0 + 1).toNat) 2, .inl (iA (EF ((p0 + 1).toNat) 2)))), (Eo ((p0 + 1).toNat) 5, .inr (3, [.ref (Eo ((p0 + 1).toNat) 6), .ref (Eo ((p0 + 1).toNat) 7), .ref (Eo ((p0 + 1).toNat) 8)])), (Eo ((p0 + 1).toNat) 6, .inr (1, [.int (iz 20), .ref (Er ((p0 + 1).toNat) 4), .int (iz (Ez ((p0 + 1).toNat) 4))])), (Er ((p0 + 1).toNat) 4, .inl (cI, En ((p0 + 1).toNat) 4, .inl (iA (EF ((p0 + 1).toNat) 4)))), (Eo ((p0 + 1).toNat) 7, .inr (1, [.int (iz 20), .ref (Er ((p0 + 1).toNat) 5), .int (iz (Ez ((p0 + 1).toNat) 5))])), (Er ((p0 + 1).toNat) 5, .inl (cI, En ((p0 + 1).toNat) 5, .inl (iA (EF ((p0 + 1).toNat) 5)))), (Eo ((p0 + 1).toNat) 8, .inr (1, [.int (iz 20), .ref (Er ((p0 + 1).toNat) 6), .int (iz (Ez ((p0 + 1).toNat) 6))])), (Er ((p0 + 1).toNat) 6, .inl (cI, En ((p0 + 1).toNat) 6, .inl (iA (EF ((p0 + 1).toNat) 6))))]) (w1 := (iU cI 5 (Eo ((p0 + 1).toNat) 4) r_43 n_44 z_45 F_46)) (ws' := ((xU cI cB cE o r n z F G (Eo 0 0)) ++ (eU cI (Eo ((p0 + 1).toNat)) (va_up (Er ((p0 + 1).toNat)) 3 r_43) (va_up (En ((p0 + 1).toNat)) 3 n_44) (va_up (Ez ((p0 + 1).toNat)) 3 z_45) (va_up (EF ((p0 + 1).toNat)) 3 F_46)))) hP hD [36, 37] [0, 1, 2, 3, 4, 5, 6, 7, 8, 9, 10, 11, 12, 13, 14, 15, 16, 17, 18, 19, 20, 21, 22, 23, 24, 25, 26, 27, 28, 29, 30, 31, 32, 33, 34, 35, 38, 39, 40, 41, 42, 43, 44] [0, 1, 2, 3, 4, 5, 6, 7, 8, 9, 10, 11, 12, 13, 14, 15, 16, 17, 18, 19, 20, 21, 22, 23, 24, 25, 26, 27, 28, 29, 30, 31, 32, 33, 34, 35, 43, 44, 36, 37, 38, 39, 40, 41, 42] rfl rfl (by decide) (by decide) hk1 hFc hP1 hD1 rfl (by decide)
              refine W.eq (g2 := F0 m 54 ls []) rfl ?_
              try dsimp only at hq_40
              obtain ⟨ha47, hb47, hc47, hd47⟩ := hq_40
              have hax47 := hd47.1
              refine lv_iconst (v := iz 1) hx hb dX5_see_54 (by decide) ?_
              have hP : va_P (dC, dI) kxCl (((xU cI cB cE o r n z F G (Eo 0 0)) ++ (eU cI (Eo ((p0 + 1).toNat)) (va_up (Er ((p0 + 1).toNat)) 3 r_43) (va_up (En ((p0 + 1).toNat)) 3 n_44) (va_up (Ez ((p0 + 1).toNat)) 3 z_45) (va_up (EF ((p0 + 1).toNat)) 3 F_46))) ++ (eR cI N ((p0 + 1).toNat) Eo Er En Ez EF)) H := hP
              have hD : va_D A (((xU cI cB cE o r n z F G (Eo 0 0)) ++ (eU cI (Eo ((p0 + 1).toNat)) (va_up (Er ((p0 + 1).toNat)) 3 r_43) (va_up (En ((p0 + 1).toNat)) 3 n_44) (va_up (Ez ((p0 + 1).toNat)) 3 z_45) (va_up (EF ((p0 + 1).toNat)) 3 F_46))) ++ (eR cI N ((p0 + 1).toNat) Eo Er En Ez EF)) := hD
              have hP := eP_unf hj30 hP
              have hD := eD_unf hj30 hD
              have hPE48 := hPE.up ((p0 + 1).toNat) ((hPE ((p0 + 1).toNat) hj30).i 3 (by decide) (show 0 ≤ z_45 ∧ z_45 ≤ ((n_44 : Nat) : Int) ∧ ((n_44 : Nat) : Int) ≤ 5 by omega) hb47 (by omega))
              have hef48 := hef.up ((p0 + 1).toNat) (z := (va_up (Ez ((p0 + 1).toNat)) 3 z_45)) (n := (va_up (En ((p0 + 1).toNat)) 3 n_44)) (F := (va_up (EF ((p0 + 1).toNat)) 3 F_46)) (fun k hk => (vfr hk _ (by decide) rfl)) (fun k hk => ⟨(vfr hk _ (by decide) rfl), (vfr hk _ (by decide) rfl)⟩)
              generalize eEr48 : va_up Er ((p0 + 1).toNat) (va_up (Er ((p0 + 1).toNat)) 3 r_43) = Er48 at hP hD
              generalize eEn48 : va_up En ((p0 + 1).toNat) (va_up (En ((p0 + 1).toNat)) 3 n_44) = En48 at hP hD hPE48 hef48
              generalize eEz48 : va_up Ez ((p0 + 1).toNat) (va_up (Ez ((p0 + 1).toNat)) 3 z_45) = Ez48 at hP hD hPE48 hef48
              generalize eEF48 : va_up EF ((p0 + 1).toNat) (va_up (EF ((p0 + 1).toNat)) 3 F_46) = EF48 at hP hD hPE48 hef48
              refine vx_ret ?_
              exact xk_iret (ov := (fun u : (Int) × (Nat → Nat) × (Nat → Nat) × (Nat → Int) × (Nat → Int → Int) × (Nat → Nat → Nat) × (Nat → Nat → Nat) × (Nat → Nat → Int) × (Nat → Nat → Int → Int) => match u with | (q, r', n', z', F', Er', En', Ez', EF') => some (.int (iz q)))) (post := (fun (u : (Int) × (Nat → Nat) × (Nat → Nat) × (Nat → Int) × (Nat → Int → Int) × (Nat → Nat → Nat) × (Nat → Nat → Nat) × (Nat → Nat → Int) × (Nat → Nat → Int → Int)) (dn dm : Nat) => match u with | (q, r', n', z', F', Er', En', Ez', EF') => xR [] [] [3] [3] N z F En Ez EF n' z' F' En' Ez' EF' ∧ (dn + xg n' ≤ xg n + 10 ∧ dm + xp n' ≤ xp n + 1700) ∧ (q = 0 ∨ q = 1))) (ws := (fun u : (Int) × (Nat → Nat) × (Nat → Nat) × (Nat → Int) × (Nat → Int → Int) × (Nat → Nat → Nat) × (Nat → Nat → Nat) × (Nat → Nat → Int) × (Nat → Nat → Int → Int) => match u with | (q, r', n', z', F', Er', En', Ez', EF') => (xU cI cB cE o r' n' z' F' G (Eo 0 0) ++ eP cI N Eo Er' En' Ez' EF'))) (tys := xT cI cB cE) (z := 1) (1, r, n, z, F, Er48, En48, Ez48, EF48) hx hb hr rfl hlocks rfl hP hD hK hS dX5_see_55 (fun dn dm hdn hdm => ⟨⟨hok, hfr, hPE48, hef48⟩, ⟨by omega, by omega⟩, by omega⟩) (by omega) (by omega)
            · skip
              refine lv_iconst (v := iz 0) hx hb dX5_see_47 (by decide) ?_
              have hP := eP_un0 hj30 hP
              have hD := eD_un0 hj30 hD
              refine vx_ret ?_
              exact xk_iret (ov := (fun u : (Int) × (Nat → Nat) × (Nat → Nat) × (Nat → Int) × (Nat → Int → Int) × (Nat → Nat → Nat) × (Nat → Nat → Nat) × (Nat → Nat → Int) × (Nat → Nat → Int → Int) => match u with | (q, r', n', z', F', Er', En', Ez', EF') => some (.int (iz q)))) (post := (fun (u : (Int) × (Nat → Nat) × (Nat → Nat) × (Nat → Int) × (Nat → Int → Int) × (Nat → Nat → Nat) × (Nat → Nat → Nat) × (Nat → Nat → Int) × (Nat → Nat → Int → Int)) (dn dm : Nat) => match u with | (q, r', n', z', F', Er', En', Ez', EF') => xR [] [] [3] [3] N z F En Ez EF n' z' F' En' Ez' EF' ∧ (dn + xg n' ≤ xg n + 10 ∧ dm + xp n' ≤ xp n + 1700) ∧ (q = 0 ∨ q = 1))) (ws := (fun u : (Int) × (Nat → Nat) × (Nat → Nat) × (Nat → Int) × (Nat → Int → Int) × (Nat → Nat → Nat) × (Nat → Nat → Nat) × (Nat → Nat → Int) × (Nat → Nat → Int → Int) => match u with | (q, r', n', z', F', Er', En', Ez', EF') => (xU cI cB cE o r' n' z' F' G (Eo 0 0) ++ eP cI N Eo Er' En' Ez' EF'))) (tys := xT cI cB cE) (z := 0) (0, r, n, z, F, Er, En, Ez, EF) hx hb hr rfl hlocks rfl hP hD hK hS dX5_see_48 (fun dn dm hdn hdm => ⟨⟨hok, hfr, hPE, hef⟩, ⟨by omega, by omega⟩, by omega⟩) (by omega) (by omega)
        · omega
set_option maxHeartbeats 4000000 in
set_option maxRecDepth 100000 in
theorem y_range (l : Launch) (hlf : l.stackTraces = false) (dC : Nat → ClassId) (dI : Nat → Nat → Nat) (cI cB cE : ClassId) (o r n : Nat → Nat) (z : Nat → Int) (F : Nat → Int → Int) (G : Nat → Option Nat) (N : Nat) (Eo Er En : Nat → Nat → Nat) (Ez : Nat → Nat → Int) (EF : Nat → Nat → Int → Int) (p0 : Int) (p1 : Int) (p2 : Int) (sz : Nat) (hok : xOk n z F) (hxG : xG N (z 12) G Eo) (hPE : eA N En Ez EF) (hp01 : -2147483648 ≤ p0) (hp02 : p0 < 2147483648) (hp11 : -2147483648 ≤ p1) (hp12 : p1 < 2147483648) (hp2 : p2 = 0 ∨ p2 = 1) : vx_Met l yX5_range [.code yX5_range cX5_range 7 (some .int)] ({ frames := 8, cells := 200, slots := 60000, locals := 147 }) (va_Pc [.ref (o 15), .int (iz p0), .int (iz p1), .int (iz p2)] (kx_Pre dC dI (xU cI cB cE o r n z F G (Eo 0 0) ++ eP cI N Eo Er En Ez EF) (xT cI cB cE) sz)) (xQ (fun u : (Int) × (Nat → Nat) × (Nat → Nat) × (Nat → Int) × (Nat → Int → Int) × (Nat → Nat → Nat) × (Nat → Nat → Nat) × (Nat → Nat → Int) × (Nat → Nat → Int → Int) => match u with | (q, r', n', z', F', Er', En', Ez', EF') => some (.int (iz q))) (fun (u : (Int) × (Nat → Nat) × (Nat → Nat) × (Nat → Int) × (Nat → Int → Int) × (Nat → Nat → Nat) × (Nat → Nat → Nat) × (Nat → Nat → Int) × (Nat → Nat → Int → Int)) (dn dm : Nat) => match u with | (q, r', n', z', F', Er', En', Ez', EF') => xR [16] [] [4, 5, 6, 9] [4, 5, 6] N z F En Ez EF n' z' F' En' Ez' EF' ∧ (dn + xg n' ≤ xg n + 30 ∧ dm + xp n' ≤ xp n + 200) ∧ ((0 ≤ p0 ∧ p0 < z 12) ∧ (1 ≤ p1 ∧ p1 ≤ 99999) ∧ ((p2 = 0 ∧ 0 ≤ Ez ((p0 + 1).toNat) 9 ∧ q = 0 ∧ Ez' ((p0 + 1).toNat) 9 = Ez ((p0 + 1).toNat) 9 ∧ Ez' ((p0 + 1).toNat) 4 = Ez ((p0 + 1).toNat) 4 ∧ EF' ((p0 + 1).toNat) 4 = EF ((p0 + 1).toNat) 4) ∨ (p2 = 0 ∧ Ez ((p0 + 1).toNat) 9 < 0 ∧ Ez ((p0 + 1).toNat) 4 < 20 ∧ q = 1 ∧ Ez' ((p0 + 1).toNat) 9 = Ez ((p0 + 1).toNat) 4 ∧ Ez' ((p0 + 1).toNat) 4 = Ez ((p0 + 1).toNat) 4 + 1 ∧ EF' ((p0 + 1).toNat) 4 (Ez ((p0 + 1).toNat) 4) = 100000 + p1) ∨ (¬ p2 = 0 ∧ q = 0 ∧ Ez' ((p0 + 1).toNat) 9 = Ez ((p0 + 1).toNat) 9 ∧ Ez' ((p0 + 1).toNat) 4 = Ez ((p0 + 1).toNat) 4 ∧ EF' ((p0 + 1).toNat) 4 = EF ((p0 + 1).toNat) 4 ∧ (0 ≤ Ez ((p0 + 1).toNat) 9 → Ez ((p0 + 1).toNat) 9 < Ez ((p0 + 1).toNat) 4 → 100000 + p1 < EF ((p0 + 1).toNat) 4 (Ez ((p0 + 1).toNat) 9))) ∨ (¬ p2 = 0 ∧ q = 1 ∧ 0 ≤ Ez ((p0 + 1).toNat) 9 ∧ (Ez ((p0 + 1).toNat) 9 < Ez ((p0 + 1).toNat) 4 → EF ((p0 + 1).toNat) 4 (Ez ((p0 + 1).toNat) 9) ≤ 100000 + p1) ∧ Ez' ((p0 + 1).toNat) 9 = -1 ∧ Ez' ((p0 + 1).toNat) 4 = Ez ((p0 + 1).toNat) 4 ∧ EF' ((p0 + 1).toNat) 4 = EF ((p0 + 1).toNat) 4)) ∧ (∀ j, j ≠ ((p0 + 1).toNat) → Ez' j = Ez j ∧ EF' j = EF j))) (fun u t => kx_At dC dI (va_A (xU cI cB cE o r n z F G (Eo 0 0) ++ eP cI N Eo Er En Ez EF) sz) ((fun u : (Int) × (Nat → Nat) × (Nat → Nat) × (Nat → Int) × (Nat → Int → Int) × (Nat → Nat → Nat) × (Nat → Nat → Nat) × (Nat → Nat → Int) × (Nat → Nat → Int → Int) => match u with | (q, r', n', z', F', Er', En', Ez', EF') => (xU cI cB cE o r' n' z' F' G (Eo 0 0) ++ eP cI N Eo Er' En' Ez' EF')) u) (xT cI cB cE) t) (va_A (xU cI cB cE o r n z F G (Eo 0 0) ++ eP cI N Eo Er En Ez EF) sz)) (yX (fun E => (E = "java/util/NoSuchElementException" ∧ (¬ (0 ≤ p0 ∧ p0 < z 12))) ∨ (E = "java/lang/IllegalArgumentException" ∧ ((0 ≤ p0 ∧ p0 < z 12) ∧ ¬ (1 ≤ p1 ∧ p1 ≤ 99999))) ∨ (E = "java/lang/UnsupportedOperationException" ∧ ((0 ≤ p0 ∧ p0 < z 12) ∧ (1 ≤ p1 ∧ p1 ≤ 99999) ∧ p2 = 0 ∧ Ez ((p0 + 1).toNat) 9 < 0 ∧ 20 ≤ Ez ((p0 + 1).toNat) 4))) 2 12 (fun t => ∃ u : (Nat → Nat) × (Nat → Nat) × (Nat → Int) × (Nat → Int → Int) × (Nat → Nat → Nat) × (Nat → Nat → Nat) × (Nat → Nat → Int) × (Nat → Nat → Int → Int), match u with | (r', n', z', F', Er', En', Ez', EF') => xR [] [] [] [] N z F En Ez EF n' z' F' En' Ez' EF' ∧ kx_At dC dI (va_A (xU cI cB cE o r n z F G (Eo 0 0) ++ eP cI N Eo Er En Ez EF) sz) (xU cI cB cE o r' n' z' F' G (Eo 0 0) ++ eP cI N Eo Er' En' Ez' EF') (xT cI cB cE) t) (va_A (xU cI cB cE o r n z F G (Eo 0 0) ++ eP cI N Eo Er En Ez EF) sz)) 200 60000 (va_A (xU cI cB cE o r n z F G (Eo 0 0) ++ eP cI N Eo Er En Ez EF) sz) := by
  refine vx_ofW (cc := cX5_range) (maxL := 7) (ret := (some .int)) (by decide) rfl ?_
  intro p e s m args below meth c s₁ B hml htab hv
  obtain ⟨rfl, hsz, hP, hK, hD0, hG, hZ⟩ := hv
  have hx := B.exec
  have hb := B.bytes
  have hr := B.returns
  have hts := kx_hts (a := ([.ref (o 15), .int (iz p0), .int (iz p1), .int (iz p2)] : List Value).toArray) hG
  have hown : s.vm.findClass RX5 = some m.cls := findClass_of_methodNamed B.named
  have hlocks := B.notSynchronized
  subst hsz
  have hD := hD0.self (sz := s.heap.size)
  generalize hAe : va_A (xU cI cB cE o r n z F G (Eo 0 0) ++ eP cI N Eo Er En Ez EF) s.heap.size = A at hD hZ ⊢
  have hA : ∀ q : Nat, s.heap.size ≤ q → A q := fun q h => by rw [← hAe]; exact Or.inr h
  have hS : va_S A s.heap s.heap [] := va_S.rf
  have hl := lv_entry ([.ref (o 15), .int (iz p0), .int (iz p1), .int (iz p2)]) (n := 7) (Nat.le_of_ble_eq_true rfl)
  rw [lg_entry_eq]
  generalize (lg_sl ([.ref (o 15), .int (iz p0), .int (iz p1), .int (iz p2)]) ++ List.replicate (7 - (lg_sl ([.ref (o 15), .int (iz p0), .int (iz p1), .int (iz p2)])).length) Slot.unset).toArray = ls at hl ⊢
  obtain ⟨hN1, hN2, hN3, hN4⟩ := hxG
  have hef : eFr [4, 5, 6, 9] [4, 5, 6] En Ez EF En Ez EF := eFr.rf
  have hfr : xFr [16] [] z F z F := xFr.rf
  have hxgl := xg_le n
  have hxpl := xp_le n
  have hl : lv_has ls 7 [(0, .ref (o 15)), (1, .int (iz p0)), (2, .int (iz p1)), (3, .int (iz p2))] := hl
  refine lv_aload_n hx hb dX5_range_0 rfl (lv_at hl 0 rfl) ?_
  refine lv_iload_n hx hb dX5_range_1 rfl (lv_at hl 1 rfl) ?_
  have hxz_1 : -2147483648 ≤ z 12 ∧ z 12 < 2147483648 := hok.2.2.2.1 12
  have hxG9 : xG N (z 12) G Eo := ⟨by omega, by omega, by omega, fun e9 h9 => hN4 e9 (by omega)⟩
  have hP : va_P (dC, dI) kxCl (xU cI cB cE o r n z F G (Eo 0 0) ++ eP cI N Eo Er En Ez EF) s.heap := hP
  have hD : va_D A (xU cI cB cE o r n z F G (Eo 0 0) ++ eP cI N Eo Er En Ez EF) := hD
  have hFc := xw_free hD hS hA
  refine yk_call (vx_runV (As := [.int (iz p0)]) (rest := []) ⟨hx, hb, hml, hown, hts⟩ (y_needEntry l hlf dC dI cI cB cE o r n z F G N Eo Er En Ez EF p0 s.heap.size hok hxG9 hPE (by omega) (by omega)) (cwV 1 hts (kx_gV kq_21_xcalls_10 kq_21_xcalls_11 kq_21_xcalls_12 kq_18_xrows_4 kq_21_xcalls_13 rfl) rfl rfl rfl (by decide +kernel) ⟨Nat.le_of_ble_eq_true rfl, Nat.le_of_ble_eq_true rfl⟩) ⟨kx_blind, va_recv hK hP (ci := 5) (q0 := 0) rfl rfl, kx_give (ws := []) (tys := []) hP hD hK hG hZ hS hFc⟩ rfl rfl hl.1 rfl (lv_room (Nat.le_of_ble_eq_true rfl)) dX5_range_2 ⟨show 0 + 1 ≤ 200 from (by omega), show 0 + 6 ≤ 60000 from (by omega)⟩) hS (fun q _ h => hFc q h) hFc (fun E ce q9 t H1 locs ht hvm hEx hBx hk1 hS hcell hcv hcl => ?_) (fun u dn_4 dm_5 t H locs ht hvm hq_2 hB hk1 hS => ?_)
  · skip
    exact ky_out (fun x hx => (htab x hx).elim) hlocks hcell hcv hcl (by obtain ⟨rfl, h9⟩ := hEx; exact Or.inl ⟨rfl, by first | trivial | omega⟩) (fun t9 ht9 hvm9 => by obtain ⟨⟨r8, n8, z8, F8, Er8, En8, Ez8, EF8⟩, hR8, hP8, hK8, hD8⟩ := hBx; exact ⟨(r8, n8, z8, F8, Er8, En8, Ez8, EF8), hR8, (by rw [ht9, ← ht]; exact hP8), va_K.moved hvm9 hK, hD8.weaken (fun _ q _ h => hFc _ h)⟩) hS hS.2.2 (by omega) (by omega) (by omega) (by omega)
  · skip
    obtain ⟨r_6, n_7, z_8, F_9, Er_10, En_11, Ez_12, EF_13⟩ := u
    obtain ⟨hP, hK1, hD1⟩ := hB
    rw [ht] at hP
    have hD := hD1.weaken (fun _ q _ h => hFc _ h)
    obtain ⟨hR14, hC14, hq_2⟩ := hq_2
    obtain ⟨rfl, rfl, rfl, rfl, rfl, rfl, rfl, hq_2⟩ := hq_2
    obtain ⟨rfl, hq_2⟩ := hq_2
    refine W.eq (g2 := F0 m 5 ls []) rfl ?_
    refine lv_iload_n hx hb dX5_range_5 rfl (lv_at hl 2 rfl) ?_
    refine lv_iconst (v := iz 1) hx hb dX5_range_6 (by decide) ?_
    refine ki_icmp_lt (tgt := 18) hx hb dX5_range_7 (by decide) (by omega) (by omega) (by omega) (by omega) (fun c_15 => ?_) (fun c_15 => ?_)
    · skip
      exact ky_thr_IAE hx hb hlf hown hG hZ hS (hl.1.trans hml.symm) dX5_range_18 dX5_range_21 dX5_range_22 dX5_range_25 htab (Nat.le_of_ble_eq_true rfl) (Nat.le_of_ble_eq_true rfl) (show (0 + dn_4) + 1 ≤ 200 from (by omega)) (show (0 + dm_5) + 6 ≤ 60000 from (by omega)) hlocks (Or.inr (Or.inl ⟨rfl, by first | trivial | omega⟩)) (fun t hvm h1 h2 => ⟨(r, n, z, F, Er, En, Ez, EF), ⟨hok, xFr.rf, hPE, eFr.rf⟩, hP.kept (fun k q hk => h2 q.1 (hP k q hk).lt), va_K.moved hvm hK, hD⟩) hS.2.2 (by omega) (by omega) (by omega) (by omega)
    · skip
      refine lv_iload_n hx hb dX5_range_10 rfl (lv_at hl 2 rfl) ?_
      refine lv_iconst (v := iz 1) hx hb dX5_range_11 (by decide) ?_
      have hPc : va_P (dC, dI) kxCl [] H := fun k q h => by simp at h
      refine xk_pure (va_runS (As := [.int (iz 1)]) (rest := [.int (iz p1)]) ⟨hx, hb, hml, hown, hts⟩ (x_lastOf l dC dI cI cB cE 1 H.size (by omega) (by omega)) (va_cwS 1 hts (kx_gS kq_21_xcalls_18 kq_21_xcalls_19 kq_18_xrows_4 kq_21_xcalls_20 rfl) rfl rfl rfl (by decide +kernel) ⟨Nat.le_of_ble_eq_true rfl, Nat.le_of_ble_eq_true rfl⟩) ⟨pPre_blind, pPre_give hPc hK hG⟩ rfl rfl hl.1 rfl (lv_room (Nat.le_of_ble_eq_true rfl)) dX5_range_12 ⟨show (0 + dn_4) + 0 ≤ 200 from (by omega), show (0 + dm_5) + 0 ≤ 60000 from (by omega)⟩) hS (fun z_17 locs hq_16 hS => ?_)
      refine W.eq (g2 := F0 m 15 ls [.int (iz z_17), .int (iz p1)]) rfl ?_
      try dsimp only at hq_16
      refine ki_icmp_le (tgt := 26) hx hb dX5_range_15 (by decide) (by omega) (by omega) (by omega) (by omega) (fun c_18 => ?_) (fun c_18 => ?_)
      · skip
        refine lv_aload_n hx hb dX5_range_26 rfl (lv_at hl 0 rfl) ?_
        refine lv_iload_n hx hb dX5_range_27 rfl (lv_at hl 1 rfl) ?_
        have hxG9 : xG N (z 12) G Eo := ⟨by omega, by omega, by omega, fun e9 h9 => hN4 e9 (by omega)⟩
        have hP : va_P (dC, dI) kxCl (xU cI cB cE o r n z F G (Eo 0 0) ++ eP cI N Eo Er En Ez EF) H := hP
        refine xk_pure (va_runV (As := [.int (iz p0)]) (rest := []) ⟨hx, hb, hml, hown, hts⟩ (y_known l dC dI cI cB cE o r n z F G N Eo Er En Ez EF p0 H.size hok hxG9 hPE (by omega) (by omega)) (cwV 1 hts (kx_gV kq_18_xrows_8 kq_18_xrows_9 kq_18_xrows_10 kq_18_xrows_4 kq_18_xrows_11 rfl) rfl rfl rfl (by decide +kernel) ⟨Nat.le_of_ble_eq_true rfl, Nat.le_of_ble_eq_true rfl⟩) ⟨pPre_blind, va_recv hK hP (ci := 5) (q0 := 0) rfl rfl, pPre_give hP hK hG⟩ rfl rfl hl.1 rfl (lv_room (Nat.le_of_ble_eq_true rfl)) dX5_range_28 ⟨show (0 + dn_4) + 0 ≤ 200 from (by omega), show (0 + dm_5) + 0 ≤ 60000 from (by omega)⟩) hS (fun z_20 locs hq_19 hS => ?_)
        refine W.eq (g2 := F0 m 31 ls [.ref z_20.toNat]) rfl ?_
        try dsimp only at hq_19
        obtain ⟨j21, hj21, ez21, hje21⟩ := hq_19
        subst ez21
        refine W.eq (g2 := F0 m 31 ls [.ref (Eo j21 0)]) rfl ?_
        have ej21 : j21 = (p0 + 1).toNat := by omega
        subst ej21
        refine lv_astore (lv' := [(4, .ref (Eo ((p0 + 1).toNat) 0)), (0, .ref (o 15)), (1, .int (iz p0)), (2, .int (iz p1)), (3, .int (iz p2))]) hx hb dX5_range_31 hl (by decide) rfl (fun ls hl => ?_)
        refine lv_iload_n hx hb dX5_range_33 rfl (lv_at hl 4 rfl) ?_
        refine ki_if_ne (tgt := 64) hx hb dX5_range_34 (by decide) (by omega) (by omega) (fun c_22 => ?_) (fun c_22 => ?_)
        · skip
          refine lv_ldc (v := 100000) hx hb hown (kx_word hG kq_19_xouts_55 rfl) dX5_range_64 ?_
          refine ki_is (show (100000 : Int32) = iz 100000 by decide) ?_
          refine lv_iload_n hx hb dX5_range_66 rfl (lv_at hl 3 rfl) ?_
          refine ki_iadd hx hb dX5_range_67 ?_
          refine lv_istore (lv' := [(5, .int (iz (100000 + p1))), (4, .ref (Eo ((p0 + 1).toNat) 0)), (0, .ref (o 15)), (1, .int (iz p0)), (2, .int (iz p1)), (3, .int (iz p2))]) hx hb dX5_range_68 hl (by decide) rfl (fun ls hl => ?_)
          refine lv_iload_n hx hb dX5_range_70 rfl (lv_at hl 5 rfl) ?_
          refine ki_if_eq (tgt := 84) hx hb dX5_range_71 (by decide) (by omega) (by omega) (fun c_23 => ?_) (fun c_23 => ?_)
          · omega
          · skip
            refine lv_aload hx hb dX5_range_74 (lv_at hl 1 rfl) ?_
            refine lv_iload hx hb dX5_range_76 (lv_at hl 0 rfl) ?_
            have hP := eP_foc hj21 hP
            have hD := eD_foc hj21 hD
            have hPc := hP.sub (ws' := (eU cI (Eo ((p0 + 1).toNat)) (Er ((p0 + 1).toNat)) (En ((p0 + 1).toNat)) (Ez ((p0 + 1).toNat)) (EF ((p0 + 1).toNat)))) [29, 30, 31, 32, 33, 34, 35, 36, 37, 38, 39, 40, 41, 42, 43, 44] rfl
            have hDc := hD.sub (ws' := (eU cI (Eo ((p0 + 1).toNat)) (Er ((p0 + 1).toNat)) (En ((p0 + 1).toNat)) (Ez ((p0 + 1).toNat)) (EF ((p0 + 1).toNat)))) [29, 30, 31, 32, 33, 34, 35, 36, 37, 38, 39, 40, 41, 42, 43, 44] (by decide) rfl
            have hFc := va_free (wc := (eU cI (Eo ((p0 + 1).toNat)) (Er ((p0 + 1).toNat)) (En ((p0 + 1).toNat)) (Ez ((p0 + 1).toNat)) (EF ((p0 + 1).toNat)))) hD hS hA [29, 30, 31, 32, 33, 34, 35, 36, 37, 38, 39, 40, 41, 42, 43, 44] rfl
            refine xk_call (va_runV (As := [.int (iz (100000 + p1))]) (rest := []) ⟨hx, hb, hml, hown, hts⟩ (x_endRange l dC dI cI cB cE (Eo ((p0 + 1).toNat)) (Er ((p0 + 1).toNat)) (En ((p0 + 1).toNat)) (Ez ((p0 + 1).toNat)) (EF ((p0 + 1).toNat)) (100000 + p1) H.size (hPE ((p0 + 1).toNat) hj21) (by omega) (by omega)) (cwV 1 hts (kx_gV kq_21_xcalls_66 kq_21_xcalls_67 kq_21_xcalls_68 kq_16_xentry_2 kq_21_xcalls_69 rfl) rfl rfl rfl (by decide +kernel) ⟨Nat.le_of_ble_eq_true rfl, Nat.le_of_ble_eq_true rfl⟩) ⟨kx_blind, va_recv hK hPc (ci := 0) (q0 := 0) rfl rfl, kx_give (ws := []) (tys := []) hPc hDc hK hG hZ hS hFc⟩ rfl rfl hl.1 rfl (lv_room (Nat.le_of_ble_eq_true rfl)) dX5_range_78 ⟨show (0 + dn_4) + 0 ≤ 200 from (by omega), show (0 + dm_5) + 0 ≤ 60000 from (by omega)⟩) hS (fun q _ h => hFc q h) hFc (fun u dn_25 dm_26 t H locs ht hvm hq_24 hB hk1 hS => ?_)
            obtain ⟨q_27, z9_28, F5_29, F6_30⟩ := u
            obtain ⟨hP1, hK1, hD1⟩ := hB
            rw [ht] at hP1
            obtain ⟨hP, hD⟩ := xj_pool (wr := [(o 15, .inr (5, [.ref (o 16), .ref (Eo 0 0), .int (iz (z 12)), .int (iz (z 13)), .int (iz (z 14)), .ref (o 0), .ref (o 1), .int (iz (z 15)), .ref (o 13), .ref (o 14), .int (iz (z 16)), .ref (o 2), .ref (o 12), .ref (o 3), .ref (o 10), .ref (o 11)])), (o 16, .inl (cE, 80, .inr (.inr (.inr (.inr G))))), (o 0, .inr (1, [.int (iz 80), .ref (r 0), .int (iz (z 0))])), (r 0, .inl (cI, n 0, .inl (iA (F 0)))), (o 1, .inr (1, [.int (iz 80), .ref (r 1), .int (iz (z 1))])), (r 1, .inl (cI, n 1, .inl (iA (F 1)))), (o 2, .inr (1, [.int (iz 80), .ref (r 2), .int (iz (z 2))])), (r 2, .inl (cI, n 2, .inl (iA (F 2)))), (o 3, .inr (1, [.int (iz 80), .ref (r 3), .int (iz (z 3))])), (r 3, .inl (cI, n 3, .inl (iA (F 3)))), (o 13, .inr (3, [.ref (o 4), .ref (o 5), .ref (o 6)])), (o 4, .inr (1, [.int (iz 1600), .ref (r 4), .int (iz (z 4))])), (r 4, .inl (cI, n 4, .inl (iA (F 4)))), (o 5, .inr (1, [.int (iz 1600), .ref (r 5), .int (iz (z 5))])), (r 5, .inl (cI, n 5, .inl (iA (F 5)))), (o 6, .inr (1, [.int (iz 1600), .ref (r 6), .int (iz (z 6))])), (r 6, .inl (cI, n 6, .inl (iA (F 6)))), (o 14, .inr (3, [.ref (o 7), .ref (o 8), .ref (o 9)])), (o 7, .inr (1, [.int (iz 1600), .ref (r 7), .int (iz (z 7))])), (r 7, .inl (cI, n 7, .inl (iA (F 7)))), (o 8, .inr (1, [.int (iz 1600), .ref (r 8), .int (iz (z 8))])), (r 8, .inl (cI, n 8, .inl (iA (F 8)))), (o 9, .inr (1, [.int (iz 1600), .ref (r 9), .int (iz (z 9))])), (r 9, .inl (cI, n 9, .inl (iA (F 9)))), (o 12, .inr (4, [.int (iz (z 17)), .int (iz (z 18)), .int (iz (z 19)), .int (iz (z 20)), .int (iz (z 21))])), (o 10, .inr (2, [.ref (r 10), .int (iz (z 10)), .int (iz (z 22))])), (r 10, .inl (cB, n 10, .inl (iA (F 10)))), (o 11, .inr (2, [.ref (r 11), .int (iz (z 11)), .int (iz (z 23))])), (r 11, .inl (cB, n 11, .inl (iA (F 11))))]) (w1 := (eU cI (Eo ((p0 + 1).toNat)) (Er ((p0 + 1).toNat)) (En ((p0 + 1).toNat)) (va_up (Ez ((p0 + 1).toNat)) 9 z9_28) (va_up (va_up (EF ((p0 + 1).toNat)) 5 F5_29) 6 F6_30))) (ws' := ((xU cI cB cE o r n z F G (Eo 0 0)) ++ (eU cI (Eo ((p0 + 1).toNat)) (Er ((p0 + 1).toNat)) (En ((p0 + 1).toNat)) (va_up (Ez ((p0 + 1).toNat)) 9 z9_28) (va_up (va_up (EF ((p0 + 1).toNat)) 5 F5_29) 6 F6_30)))) hP hD [29, 30, 31, 32, 33, 34, 35, 36, 37, 38, 39, 40, 41, 42, 43, 44] [0, 1, 2, 3, 4, 5, 6, 7, 8, 9, 10, 11, 12, 13, 14, 15, 16, 17, 18, 19, 20, 21, 22, 23, 24, 25, 26, 27, 28] [0, 1, 2, 3, 4, 5, 6, 7, 8, 9, 10, 11, 12, 13, 14, 15, 16, 17, 18, 19, 20, 21, 22, 23, 24, 25, 26, 27, 28, 29, 30, 31, 32, 33, 34, 35, 36, 37, 38, 39, 40, 41, 42, 43, 44] rfl rfl (by decide) (by decide) hk1 hFc hP1 hD1 rfl (by decide)
            refine W.eq (g2 := F0 m 81 ls [.int (iz q_27)]) rfl ?_
            try dsimp only at hq_24
            obtain ⟨hd31, hm31, hb531, hb631, hz31, hr31⟩ := hq_24
            subst hd31
            subst hm31
            refine lv_goto (tgt := 91) hx hb dX5_range_81 (by decide) ?_
            refine lv_istore (lv' := [(6, .int (iz q_27)), (5, .int (iz (100000 + p1))), (4, .ref (Eo ((p0 + 1).toNat) 0)), (0, .ref (o 15)), (1, .int (iz p0)), (2, .int (iz p1)), (3, .int (iz p2))]) hx hb dX5_range_91 hl (by decide) rfl (fun ls hl => ?_)
            refine lv_iload hx hb dX5_range_93 (lv_at hl 0 rfl) ?_
            refine ki_if_eq (tgt := 103) hx hb dX5_range_95 (by decide) (by omega) (by omega) (fun c_32 => ?_) (fun c_32 => ?_)
            · skip
              refine lv_iload hx hb dX5_range_103 (lv_at hl 0 rfl) ?_
              refine ki_if_eq (tgt := 112) hx hb dX5_range_105 (by decide) (by omega) (by omega) (fun c_33 => ?_) (fun c_33 => ?_)
              · skip
                refine lv_iconst (v := iz 0) hx hb dX5_range_112 (by decide) ?_
                have he_34 : 0 ≤ Ez ((p0 + 1).toNat) 5 ∧ Ez ((p0 + 1).toNat) 5 ≤ ((En ((p0 + 1).toNat) 5 : Nat) : Int) ∧ ((En ((p0 + 1).toNat) 5 : Nat) : Int) ≤ 20 := (hPE ((p0 + 1).toNat) hj21).1 5 (by decide)
                have he_35 : 0 ≤ Ez ((p0 + 1).toNat) 6 ∧ Ez ((p0 + 1).toNat) 6 ≤ ((En ((p0 + 1).toNat) 6 : Nat) : Int) ∧ ((En ((p0 + 1).toNat) 6 : Nat) : Int) ≤ 20 := (hPE ((p0 + 1).toNat) hj21).1 6 (by decide)
                have hez_36 : -2147483648 ≤ Ez ((p0 + 1).toNat) 9 ∧ Ez ((p0 + 1).toNat) 9 < 2147483648 := (hPE ((p0 + 1).toNat) hj21).2.2 9
                have hP : va_P (dC, dI) kxCl (((xU cI cB cE o r n z F G (Eo 0 0)) ++ (eU cI (Eo ((p0 + 1).toNat)) (Er ((p0 + 1).toNat)) (va_up (va_up (En ((p0 + 1).toNat)) 5 (En ((p0 + 1).toNat) 5)) 6 (En ((p0 + 1).toNat) 6)) (va_up (va_up (va_up (Ez ((p0 + 1).toNat)) 5 (Ez ((p0 + 1).toNat) 5)) 6 (Ez ((p0 + 1).toNat) 6)) 9 z9_28) (va_up (va_up (EF ((p0 + 1).toNat)) 5 F5_29) 6 F6_30))) ++ (eR cI N ((p0 + 1).toNat) Eo Er En Ez EF)) H := hP
                have hD : va_D A (((xU cI cB cE o r n z F G (Eo 0 0)) ++ (eU cI (Eo ((p0 + 1).toNat)) (Er ((p0 + 1).toNat)) (va_up (va_up (En ((p0 + 1).toNat)) 5 (En ((p0 + 1).toNat) 5)) 6 (En ((p0 + 1).toNat) 6)) (va_up (va_up (va_up (Ez ((p0 + 1).toNat)) 5 (Ez ((p0 + 1).toNat) 5)) 6 (Ez ((p0 + 1).toNat) 6)) 9 z9_28) (va_up (va_up (EF ((p0 + 1).toNat)) 5 F5_29) 6 F6_30))) ++ (eR cI N ((p0 + 1).toNat) Eo Er En Ez EF)) := hD
                have hP := eP_unf hj21 hP
                have hD := eD_unf hj21 hD
                have hPE37 := hPE.up ((p0 + 1).toNat) ((((hPE ((p0 + 1).toNat) hj21).i 5 (by decide) (show 0 ≤ Ez ((p0 + 1).toNat) 5 ∧ Ez ((p0 + 1).toNat) 5 ≤ ((En ((p0 + 1).toNat) 5 : Nat) : Int) ∧ ((En ((p0 + 1).toNat) 5 : Nat) : Int) ≤ 20 by omega) hb531 (by omega)).i 6 (by decide) (show 0 ≤ Ez ((p0 + 1).toNat) 6 ∧ Ez ((p0 + 1).toNat) 6 ≤ ((En ((p0 + 1).toNat) 6 : Nat) : Int) ∧ ((En ((p0 + 1).toNat) 6 : Nat) : Int) ≤ 20 by omega) hb631 (by omega)).sc 9 (by decide) (show -2147483648 ≤ z9_28 by omega) (show z9_28 < 2147483648 by omega))
                have hef37 := hef.up ((p0 + 1).toNat) (z := (va_up (va_up (va_up (Ez ((p0 + 1).toNat)) 5 (Ez ((p0 + 1).toNat) 5)) 6 (Ez ((p0 + 1).toNat) 6)) 9 z9_28)) (n := (va_up (va_up (En ((p0 + 1).toNat)) 5 (En ((p0 + 1).toNat) 5)) 6 (En ((p0 + 1).toNat) 6))) (F := (va_up (va_up (EF ((p0 + 1).toNat)) 5 F5_29) 6 F6_30)) (fun k hk => (vfr hk _ (by decide) (vfr hk _ (by decide) (vfr hk _ (by decide) rfl)))) (fun k hk => ⟨(vfr hk _ (by decide) (vfr hk _ (by decide) rfl)), (vfr hk _ (by decide) (vfr hk _ (by decide) rfl))⟩)
                generalize eEr37 : va_up Er ((p0 + 1).toNat) (Er ((p0 + 1).toNat)) = Er37 at hP hD
                generalize eEn37 : va_up En ((p0 + 1).toNat) (va_up (va_up (En ((p0 + 1).toNat)) 5 (En ((p0 + 1).toNat) 5)) 6 (En ((p0 + 1).toNat) 6)) = En37 at hP hD hPE37 hef37
                generalize eEz37 : va_up Ez ((p0 + 1).toNat) (va_up (va_up (va_up (Ez ((p0 + 1).toNat)) 5 (Ez ((p0 + 1).toNat) 5)) 6 (Ez ((p0 + 1).toNat) 6)) 9 z9_28) = Ez37 at hP hD hPE37 hef37
                generalize eEF37 : va_up EF ((p0 + 1).toNat) (va_up (va_up (EF ((p0 + 1).toNat)) 5 F5_29) 6 F6_30) = EF37 at hP hD hPE37 hef37
                have hcl37_0 : Ez37 ((p0 + 1).toNat) 0 = Ez ((p0 + 1).toNat) 0 := by rw [← eEz37]; simp (decide := true) only [va_ev, ↓reduceIte]
                have hcl37_4 : Ez37 ((p0 + 1).toNat) 4 = Ez ((p0 + 1).toNat) 4 := by rw [← eEz37]; simp (decide := true) only [va_ev, ↓reduceIte]
                have hcl37_7 : Ez37 ((p0 + 1).toNat) 7 = Ez ((p0 + 1).toNat) 7 := by rw [← eEz37]; simp (decide := true) only [va_ev, ↓reduceIte]
                have hcl37_9 : Ez37 ((p0 + 1).toNat) 9 = z9_28 := by rw [← eEz37]; simp (decide := true) only [va_ev, ↓reduceIte]
                have hcF37_4 : EF37 ((p0 + 1).toNat) 4 = EF ((p0 + 1).toNat) 4 := by rw [← eEF37]; simp (decide := true) only [va_ev, ↓reduceIte]
                refine vx_ret ?_
                exact xk_iret (ov := (fun u : (Int) × (Nat → Nat) × (Nat → Nat) × (Nat → Int) × (Nat → Int → Int) × (Nat → Nat → Nat) × (Nat → Nat → Nat) × (Nat → Nat → Int) × (Nat → Nat → Int → Int) => match u with | (q, r', n', z', F', Er', En', Ez', EF') => some (.int (iz q)))) (post := (fun (u : (Int) × (Nat → Nat) × (Nat → Nat) × (Nat → Int) × (Nat → Int → Int) × (Nat → Nat → Nat) × (Nat → Nat → Nat) × (Nat → Nat → Int) × (Nat → Nat → Int → Int)) (dn dm : Nat) => match u with | (q, r', n', z', F', Er', En', Ez', EF') => xR [16] [] [4, 5, 6, 9] [4, 5, 6] N z F En Ez EF n' z' F' En' Ez' EF' ∧ (dn + xg n' ≤ xg n + 30 ∧ dm + xp n' ≤ xp n + 200) ∧ ((0 ≤ p0 ∧ p0 < z 12) ∧ (1 ≤ p1 ∧ p1 ≤ 99999) ∧ ((p2 = 0 ∧ 0 ≤ Ez ((p0 + 1).toNat) 9 ∧ q = 0 ∧ Ez' ((p0 + 1).toNat) 9 = Ez ((p0 + 1).toNat) 9 ∧ Ez' ((p0 + 1).toNat) 4 = Ez ((p0 + 1).toNat) 4 ∧ EF' ((p0 + 1).toNat) 4 = EF ((p0 + 1).toNat) 4) ∨ (p2 = 0 ∧ Ez ((p0 + 1).toNat) 9 < 0 ∧ Ez ((p0 + 1).toNat) 4 < 20 ∧ q = 1 ∧ Ez' ((p0 + 1).toNat) 9 = Ez ((p0 + 1).toNat) 4 ∧ Ez' ((p0 + 1).toNat) 4 = Ez ((p0 + 1).toNat) 4 + 1 ∧ EF' ((p0 + 1).toNat) 4 (Ez ((p0 + 1).toNat) 4) = 100000 + p1) ∨ (¬ p2 = 0 ∧ q = 0 ∧ Ez' ((p0 + 1).toNat) 9 = Ez ((p0 + 1).toNat) 9 ∧ Ez' ((p0 + 1).toNat) 4 = Ez ((p0 + 1).toNat) 4 ∧ EF' ((p0 + 1).toNat) 4 = EF ((p0 + 1).toNat) 4 ∧ (0 ≤ Ez ((p0 + 1).toNat) 9 → Ez ((p0 + 1).toNat) 9 < Ez ((p0 + 1).toNat) 4 → 100000 + p1 < EF ((p0 + 1).toNat) 4 (Ez ((p0 + 1).toNat) 9))) ∨ (¬ p2 = 0 ∧ q = 1 ∧ 0 ≤ Ez ((p0 + 1).toNat) 9 ∧ (Ez ((p0 + 1).toNat) 9 < Ez ((p0 + 1).toNat) 4 → EF ((p0 + 1).toNat) 4 (Ez ((p0 + 1).toNat) 9) ≤ 100000 + p1) ∧ Ez' ((p0 + 1).toNat) 9 = -1 ∧ Ez' ((p0 + 1).toNat) 4 = Ez ((p0 + 1).toNat) 4 ∧ EF' ((p0 + 1).toNat) 4 = EF ((p0 + 1).toNat) 4)) ∧ (∀ j, j ≠ ((p0 + 1).toNat) → Ez' j = Ez j ∧ EF' j = EF j)))) (ws := (fun u : (Int) × (Nat → Nat) × (Nat → Nat) × (Nat → Int) × (Nat → Int → Int) × (Nat → Nat → Nat) × (Nat → Nat → Nat) × (Nat → Nat → Int) × (Nat → Nat → Int → Int) => match u with | (q, r', n', z', F', Er', En', Ez', EF') => (xU cI cB cE o r' n' z' F' G (Eo 0 0) ++ eP cI N Eo Er' En' Ez' EF'))) (tys := xT cI cB cE) (z := 0) (0, r, n, z, F, Er37, En37, Ez37, EF37) hx hb hr rfl hlocks rfl hP hD hK hS dX5_range_113 (fun dn dm hdn hdm => ⟨⟨hok, hfr, hPE37, hef37⟩, ⟨by omega, by omega⟩, by rcases hr31 with ⟨h1, h2, h3⟩ | ⟨h1, h2, h3, h5⟩; exact ⟨by omega, by omega, Or.inr (Or.inr (Or.inl ⟨by omega, by omega, by omega, by omega, hcF37_4, h3⟩)), fun j hj => ⟨by rw [← eEz37]; exact va_up_ne _ _ hj, by rw [← eEF37]; exact va_up_ne _ _ hj⟩⟩; exact ⟨by omega, by omega, Or.inr (Or.inr (Or.inr ⟨by omega, by omega, h2, h3, by omega, by omega, hcF37_4⟩)), fun j hj => ⟨by rw [← eEz37]; exact va_up_ne _ _ hj, by rw [← eEF37]; exact va_up_ne _ _ hj⟩⟩⟩) (by omega) (by omega)
              · omega
            · skip
              refine lv_aload_n hx hb dX5_range_98 rfl (lv_at hl 3 rfl) ?_
              refine lv_iconst (v := iz (-1)) hx hb dX5_range_99 (by decide) ?_
              refine va_put (D := (dC, dI)) (ci := 5) (v := .int (iz (-1))) (ty := .int) (C := RX5) (T := TX5) (N := 16) hx hb hts kt_X5 tyX5 tyX5_ok nmX5 hown hK hP hD hS 0 rfl rfl 10 (by decide) (kx_word hG kq_18_xrows_26 rfl) (fun _ h9 => h9) rfl (by decide +kernel) rfl rfl (Nat.le_of_ble_eq_true rfl) dX5_range_100 (fun H locs hP hD hS => ?_)
              have hP : va_P (dC, dI) kxCl (((xU cI cB cE o r n (va_up z 16 (-1)) F G (Eo 0 0)) ++ (eU cI (Eo ((p0 + 1).toNat)) (Er ((p0 + 1).toNat)) (En ((p0 + 1).toNat)) (va_up (Ez ((p0 + 1).toNat)) 9 z9_28) (va_up (va_up (EF ((p0 + 1).toNat)) 5 F5_29) 6 F6_30))) ++ (eR cI N ((p0 + 1).toNat) Eo Er En Ez EF)) H := hP
              have hD : va_D A (((xU cI cB cE o r n (va_up z 16 (-1)) F G (Eo 0 0)) ++ (eU cI (Eo ((p0 + 1).toNat)) (Er ((p0 + 1).toNat)) (En ((p0 + 1).toNat)) (va_up (Ez ((p0 + 1).toNat)) 9 z9_28) (va_up (va_up (EF ((p0 + 1).toNat)) 5 F5_29) 6 F6_30))) ++ (eR cI N ((p0 + 1).toNat) Eo Er En Ez EF)) := hD
              refine lv_iload hx hb dX5_range_103 (lv_at hl 0 rfl) ?_
              refine ki_if_eq (tgt := 112) hx hb dX5_range_105 (by decide) (by omega) (by omega) (fun c_38 => ?_) (fun c_38 => ?_)
              · omega
              · skip
                refine lv_iconst (v := iz 1) hx hb dX5_range_108 (by decide) ?_
                refine lv_goto (tgt := 113) hx hb dX5_range_109 (by decide) ?_
                have he_39 : 0 ≤ Ez ((p0 + 1).toNat) 5 ∧ Ez ((p0 + 1).toNat) 5 ≤ ((En ((p0 + 1).toNat) 5 : Nat) : Int) ∧ ((En ((p0 + 1).toNat) 5 : Nat) : Int) ≤ 20 := (hPE ((p0 + 1).toNat) hj21).1 5 (by decide)
                have he_40 : 0 ≤ Ez ((p0 + 1).toNat) 6 ∧ Ez ((p0 + 1).toNat) 6 ≤ ((En ((p0 + 1).toNat) 6 : Nat) : Int) ∧ ((En ((p0 + 1).toNat) 6 : Nat) : Int) ≤ 20 := (hPE ((p0 + 1).toNat) hj21).1 6 (by decide)
                have hez_41 : -2147483648 ≤ Ez ((p0 + 1).toNat) 9 ∧ Ez ((p0 + 1).toNat) 9 < 2147483648 := (hPE ((p0 + 1).toNat) hj21).2.2 9
                have hP : va_P (dC, dI) kxCl (((xU cI cB cE o r n (va_up z 16 (-1)) F G (Eo 0 0)) ++ (eU cI (Eo ((p0 + 1).toNat)) (Er ((p0 + 1).toNat)) (va_up (va_up (En ((p0 + 1).toNat)) 5 (En ((p0 + 1).toNat) 5)) 6 (En ((p0 + 1).toNat) 6)) (va_up (va_up (va_up (Ez ((p0 + 1).toNat)) 5 (Ez ((p0 + 1).toNat) 5)) 6 (Ez ((p0 + 1).toNat) 6)) 9 z9_28) (va_up (va_up (EF ((p0 + 1).toNat)) 5 F5_29) 6 F6_30))) ++ (eR cI N ((p0 + 1).toNat) Eo Er En Ez EF)) H := hP
                have hD : va_D A (((xU cI cB cE o r n (va_up z 16 (-1)) F G (Eo 0 0)) ++ (eU cI (Eo ((p0 + 1).toNat)) (Er ((p0 + 1).toNat)) (va_up (va_up (En ((p0 + 1).toNat)) 5 (En ((p0 + 1).toNat) 5)) 6 (En ((p0 + 1).toNat) 6)) (va_up (va_up (va_up (Ez ((p0 + 1).toNat)) 5 (Ez ((p0 + 1).toNat) 5)) 6 (Ez ((p0 + 1).toNat) 6)) 9 z9_28) (va_up (va_up (EF ((p0 + 1).toNat)) 5 F5_29) 6 F6_30))) ++ (eR cI N ((p0 + 1).toNat) Eo Er En Ez EF)) := hD
                have hP := eP_unf hj21 hP
                have hD := eD_unf hj21 hD
                have hPE42 := hPE.up ((p0 + 1).toNat) ((((hPE ((p0 + 1).toNat) hj21).i 5 (by decide) (show 0 ≤ Ez ((p0 + 1).toNat) 5 ∧ Ez ((p0 + 1).toNat) 5 ≤ ((En ((p0 + 1).toNat) 5 : Nat) : Int) ∧ ((En ((p0 + 1).toNat) 5 : Nat) : Int) ≤ 20 by omega) hb531 (by omega)).i 6 (by decide) (show 0 ≤ Ez ((p0 + 1).toNat) 6 ∧ Ez ((p0 + 1).toNat) 6 ≤ ((En ((p0 + 1).toNat) 6 : Nat) : Int) ∧ ((En ((p0 + 1).toNat) 6 : Nat) : Int) ≤ 20 by omega) hb631 (by omega)).sc 9 (by decide) (show -2147483648 ≤ z9_28 by omega) (show z9_28 < 2147483648 by omega))
                have hef42 := hef.up ((p0 + 1).toNat) (z := (va_up (va_up (va_up (Ez ((p0 + 1).toNat)) 5 (Ez ((p0 + 1).toNat) 5)) 6 (Ez ((p0 + 1).toNat) 6)) 9 z9_28)) (n := (va_up (va_up (En ((p0 + 1).toNat)) 5 (En ((p0 + 1).toNat) 5)) 6 (En ((p0 + 1).toNat) 6))) (F := (va_up (va_up (EF ((p0 + 1).toNat)) 5 F5_29) 6 F6_30)) (fun k hk => (vfr hk _ (by decide) (vfr hk _ (by decide) (vfr hk _ (by decide) rfl)))) (fun k hk => ⟨(vfr hk _ (by decide) (vfr hk _ (by decide) rfl)), (vfr hk _ (by decide) (vfr hk _ (by decide) rfl))⟩)
                generalize eEr42 : va_up Er ((p0 + 1).toNat) (Er ((p0 + 1).toNat)) = Er42 at hP hD
                generalize eEn42 : va_up En ((p0 + 1).toNat) (va_up (va_up (En ((p0 + 1).toNat)) 5 (En ((p0 + 1).toNat) 5)) 6 (En ((p0 + 1).toNat) 6)) = En42 at hP hD hPE42 hef42
                generalize eEz42 : va_up Ez ((p0 + 1).toNat) (va_up (va_up (va_up (Ez ((p0 + 1).toNat)) 5 (Ez ((p0 + 1).toNat) 5)) 6 (Ez ((p0 + 1).toNat) 6)) 9 z9_28) = Ez42 at hP hD hPE42 hef42
                generalize eEF42 : va_up EF ((p0 + 1).toNat) (va_up (va_up (EF ((p0 + 1).toNat)) 5 F5_29) 6 F6_30) = EF42 at hP hD hPE42 hef42
                have hcl42_0 : Ez42 ((p0 + 1).toNat) 0 = Ez ((p0 + 1).toNat) 0 := by rw [← eEz42]; simp (decide := true) only [va_ev, ↓reduceIte]
                have hcl42_4 : Ez42 ((p0 + 1).toNat) 4 = Ez ((p0 + 1).toNat) 4 := by rw [← eEz42]; simp (decide := true) only [va_ev, ↓reduceIte]
                have hcl42_7 : Ez42 ((p0 + 1).toNat) 7 = Ez ((p0 + 1).toNat) 7 := by rw [← eEz42]; simp (decide := true) only [va_ev, ↓reduceIte]
                have hcl42_9 : Ez42 ((p0 + 1).toNat) 9 = z9_28 := by rw [← eEz42]; simp (decide := true) only [va_ev, ↓reduceIte]
                have hcF42_4 : EF42 ((p0 + 1).toNat) 4 = EF ((p0 + 1).toNat) 4 := by rw [← eEF42]; simp (decide := true) only [va_ev, ↓reduceIte]
                have hxz_43 : -2147483648 ≤ z 16 ∧ z 16 < 2147483648 := hok.2.2.2.1 16
                have hok44 : xOk n (va_up z 16 (-1)) F := (hok.s 16 (by decide) (show -2147483648 ≤ (-1) ∧ (-1) < 2147483648 by omega) (by omega))
                have hfr44 : xFr [16] [] z F (va_up z 16 (-1)) F := (hfr.uz 16 (by decide) _)
                refine vx_ret ?_
                exact xk_iret (ov := (fun u : (Int) × (Nat → Nat) × (Nat → Nat) × (Nat → Int) × (Nat → Int → Int) × (Nat → Nat → Nat) × (Nat → Nat → Nat) × (Nat → Nat → Int) × (Nat → Nat → Int → Int) => match u with | (q, r', n', z', F', Er', En', Ez', EF') => some (.int (iz q)))) (post := (fun (u : (Int) × (Nat → Nat) × (Nat → Nat) × (Nat → Int) × (Nat → Int → Int) × (Nat → Nat → Nat) × (Nat → Nat → Nat) × (Nat → Nat → Int) × (Nat → Nat → Int → Int)) (dn dm : Nat) => match u with | (q, r', n', z', F', Er', En', Ez', EF') => xR [16] [] [4, 5, 6, 9] [4, 5, 6] N z F En Ez EF n' z' F' En' Ez' EF' ∧ (dn + xg n' ≤ xg n + 30 ∧ dm + xp n' ≤ xp n + 200) ∧ ((0 ≤ p0 ∧ p0 < z 12) ∧ (1 ≤ p1 ∧ p1 ≤ 99999) ∧ ((p2 = 0 ∧ 0 ≤ Ez ((p0 + 1).toNat) 9 ∧ q = 0 ∧ Ez' ((p0 + 1).toNat) 9 = Ez ((p0 + 1).toNat) 9 ∧ Ez' ((p0 + 1).toNat) 4 = Ez ((p0 + 1).toNat) 4 ∧ EF' ((p0 + 1).toNat) 4 = EF ((p0 + 1).toNat) 4) ∨ (p2 = 0 ∧ Ez ((p0 + 1).toNat) 9 < 0 ∧ Ez ((p0 + 1).toNat) 4 < 20 ∧ q = 1 ∧ Ez' ((p0 + 1).toNat) 9 = Ez ((p0 + 1).toNat) 4 ∧ Ez' ((p0 + 1).toNat) 4 = Ez ((p0 + 1).toNat) 4 + 1 ∧ EF' ((p0 + 1).toNat) 4 (Ez ((p0 + 1).toNat) 4) = 100000 + p1) ∨ (¬ p2 = 0 ∧ q = 0 ∧ Ez' ((p0 + 1).toNat) 9 = Ez ((p0 + 1).toNat) 9 ∧ Ez' ((p0 + 1).toNat) 4 = Ez ((p0 + 1).toNat) 4 ∧ EF' ((p0 + 1).toNat) 4 = EF ((p0 + 1).toNat) 4 ∧ (0 ≤ Ez ((p0 + 1).toNat) 9 → Ez ((p0 + 1).toNat) 9 < Ez ((p0 + 1).toNat) 4 → 100000 + p1 < EF ((p0 + 1).toNat) 4 (Ez ((p0 + 1).toNat) 9))) ∨ (¬ p2 = 0 ∧ q = 1 ∧ 0 ≤ Ez ((p0 + 1).toNat) 9 ∧ (Ez ((p0 + 1).toNat) 9 < Ez ((p0 + 1).toNat) 4 → EF ((p0 + 1).toNat) 4 (Ez ((p0 + 1).toNat) 9) ≤ 100000 + p1) ∧ Ez' ((p0 + 1).toNat) 9 = -1 ∧ Ez' ((p0 + 1).toNat) 4 = Ez ((p0 + 1).toNat) 4 ∧ EF' ((p0 + 1).toNat) 4 = EF ((p0 + 1).toNat) 4)) ∧ (∀ j, j ≠ ((p0 + 1).toNat) → Ez' j = Ez j ∧ EF' j = EF j)))) (ws := (fun u : (Int) × (Nat → Nat) × (Nat → Nat) × (Nat → Int) × (Nat → Int → Int) × (Nat → Nat → Nat) × (Nat → Nat → Nat) × (Nat → Nat → Int) × (Nat → Nat → Int → Int) => match u with | (q, r', n', z', F', Er', En', Ez', EF') => (xU cI cB cE o r' n' z' F' G (Eo 0 0) ++ eP cI N Eo Er' En' Ez' EF'))) (tys := xT cI cB cE) (z := 1) (1, r, n, (va_up z 16 (-1)), F, Er42, En42, Ez42, EF42) hx hb hr rfl hlocks rfl hP hD hK hS dX5_range_113 (fun dn dm hdn hdm => ⟨⟨hok44, hfr44, hPE42, hef42⟩, ⟨by omega, by omega⟩, by rcases hr31 with ⟨h1, h2, h3⟩ | ⟨h1, h2, h3, h5⟩; exact ⟨by omega, by omega, Or.inr (Or.inr (Or.inl ⟨by omega, by omega, by omega, by omega, hcF42_4, h3⟩)), fun j hj => ⟨by rw [← eEz42]; exact va_up_ne _ _ hj, by rw [← eEF42]; exact va_up_ne _ _ hj⟩⟩; exact ⟨by omega, by omega, Or.inr (Or.inr (Or.inr ⟨by omega, by omega, h2, h3, by omega, by omega, hcF42_4⟩)), fun j hj => ⟨by rw [← eEz42]; exact va_up_ne _ _ hj, by rw [← eEF42]; exact va_up_ne _ _ hj⟩⟩⟩) (by omega) (by omega)
        · skip
          refine lv_aload hx hb dX5_range_37 (lv_at hl 0 rfl) ?_
          have hP := eP_foc hj21 hP
          have hD := eD_foc hj21 hD
          have hez_45 : -2147483648 ≤ Ez ((p0 + 1).toNat) 9 ∧ Ez ((p0 + 1).toNat) 9 < 2147483648 := (hPE ((p0 + 1).toNat) hj21).2.2 9
          refine va_getN (D := (dC, dI)) (ci := 0) (v := .int (iz (Ez ((p0 + 1).toNat) 9))) (C := RX0) (T := TX0) (N := 12) hx hb hts kt_X0 hown hK hP 29 rfl rfl 7 (by decide) (va_Nw.use rfl (kx_nf hG kq_19_xouts_44)) (fun _ h9 => h9) rfl dX5_range_39 ?_
          refine ki_if_ge (tgt := 64) hx hb dX5_range_42 (by decide) (by omega) (by omega) (fun c_46 => ?_) (fun c_46 => ?_)
          · skip
            refine lv_ldc (v := 100000) hx hb hown (kx_word hG kq_19_xouts_55 rfl) dX5_range_64 ?_
            refine ki_is (show (100000 : Int32) = iz 100000 by decide) ?_
            refine lv_iload_n hx hb dX5_range_66 rfl (lv_at hl 3 rfl) ?_
            refine ki_iadd hx hb dX5_range_67 ?_
            refine lv_istore (lv' := [(5, .int (iz (100000 + p1))), (4, .ref (Eo ((p0 + 1).toNat) 0)), (0, .ref (o 15)), (1, .int (iz p0)), (2, .int (iz p1)), (3, .int (iz p2))]) hx hb dX5_range_68 hl (by decide) rfl (fun ls hl => ?_)
            refine lv_iload_n hx hb dX5_range_70 rfl (lv_at hl 5 rfl) ?_
            refine ki_if_eq (tgt := 84) hx hb dX5_range_71 (by decide) (by omega) (by omega) (fun c_47 => ?_) (fun c_47 => ?_)
            · skip
              refine lv_aload hx hb dX5_range_84 (lv_at hl 1 rfl) ?_
              refine lv_iload hx hb dX5_range_86 (lv_at hl 0 rfl) ?_
              have hPc := hP.sub (ws' := (eU cI (Eo ((p0 + 1).toNat)) (Er ((p0 + 1).toNat)) (En ((p0 + 1).toNat)) (Ez ((p0 + 1).toNat)) (EF ((p0 + 1).toNat)))) [29, 30, 31, 32, 33, 34, 35, 36, 37, 38, 39, 40, 41, 42, 43, 44] rfl
              have hDc := hD.sub (ws' := (eU cI (Eo ((p0 + 1).toNat)) (Er ((p0 + 1).toNat)) (En ((p0 + 1).toNat)) (Ez ((p0 + 1).toNat)) (EF ((p0 + 1).toNat)))) [29, 30, 31, 32, 33, 34, 35, 36, 37, 38, 39, 40, 41, 42, 43, 44] (by decide) rfl
              have hFc := va_free (wc := (eU cI (Eo ((p0 + 1).toNat)) (Er ((p0 + 1).toNat)) (En ((p0 + 1).toNat)) (Ez ((p0 + 1).toNat)) (EF ((p0 + 1).toNat)))) hD hS hA [29, 30, 31, 32, 33, 34, 35, 36, 37, 38, 39, 40, 41, 42, 43, 44] rfl
              refine xk_call (va_runV (As := [.int (iz (100000 + p1))]) (rest := []) ⟨hx, hb, hml, hown, hts⟩ (x_beginRange l dC dI cI cB cE (Eo ((p0 + 1).toNat)) (Er ((p0 + 1).toNat)) (En ((p0 + 1).toNat)) (Ez ((p0 + 1).toNat)) (EF ((p0 + 1).toNat)) (100000 + p1) H.size (hPE ((p0 + 1).toNat) hj21) (by omega) (by omega)) (cwV 1 hts (kx_gV kq_21_xcalls_70 kq_21_xcalls_71 kq_21_xcalls_72 kq_16_xentry_2 kq_21_xcalls_73 rfl) rfl rfl rfl (by decide +kernel) ⟨Nat.le_of_ble_eq_true rfl, Nat.le_of_ble_eq_true rfl⟩) ⟨kx_blind, va_recv hK hPc (ci := 0) (q0 := 0) rfl rfl, kx_give (ws := []) (tys := []) hPc hDc hK hG hZ hS hFc⟩ rfl rfl hl.1 rfl (lv_room (Nat.le_of_ble_eq_true rfl)) dX5_range_88 ⟨show (0 + dn_4) + 30 ≤ 200 from (by omega), show (0 + dm_5) + 9600 ≤ 60000 from (by omega)⟩) hS (fun q _ h => hFc q h) hFc (fun u dn_49 dm_50 t H locs ht hvm hq_48 hB hk1 hS => ?_)
              obtain ⟨q_51, z9_52, r4_53, n4_54, z4_55, F4_56, r5_57, n5_58, z5_59, F5_60, r6_61, n6_62, z6_63, F6_64⟩ := u
              obtain ⟨hP1, hK1, hD1⟩ := hB
              rw [ht] at hP1
              obtain ⟨hP, hD⟩ := xj_pool (wr := [(o 15, .inr (5, [.ref (o 16), .ref (Eo 0 0), .int (iz (z 12)), .int (iz (z 13)), .int (iz (z 14)), .ref (o 0), .ref (o 1), .int (iz (z 15)), .ref (o 13), .ref (o 14), .int (iz (z 16)), .ref (o 2), .ref (o 12), .ref (o 3), .ref (o 10), .ref (o 11)])), (o 16, .inl (cE, 80, .inr (.inr (.inr (.inr G))))), (o 0, .inr (1, [.int (iz 80), .ref (r 0), .int (iz (z 0))])), (r 0, .inl (cI, n 0, .inl (iA (F 0)))), (o 1, .inr (1, [.int (iz 80), .ref (r 1), .int (iz (z 1))])), (r 1, .inl (cI, n 1, .inl (iA (F 1)))), (o 2, .inr (1, [.int (iz 80), .ref (r 2), .int (iz (z 2))])), (r 2, .inl (cI, n 2, .inl (iA (F 2)))), (o 3, .inr (1, [.int (iz 80), .ref (r 3), .int (iz (z 3))])), (r 3, .inl (cI, n 3, .inl (iA (F 3)))), (o 13, .inr (3, [.ref (o 4), .ref (o 5), .ref (o 6)])), (o 4, .inr (1, [.int (iz 1600), .ref (r 4), .int (iz (z 4))])), (r 4, .inl (cI, n 4, .inl (iA (F 4)))), (o 5, .inr (1, [.int (iz 1600), .ref (r 5), .int (iz (z 5))])), (r 5, .inl (cI, n 5, .inl (iA (F 5)))), (o 6, .inr (1, [.int (iz 1600), .ref (r 6), .int (iz (z 6))])), (r 6, .inl (cI, n 6, .inl (iA (F 6)))), (o 14, .inr (3, [.ref (o 7), .ref (o 8), .ref (o 9)])), (o 7, .inr (1, [.int (iz 1600), .ref (r 7), .int (iz (z 7))])), (r 7, .inl (cI, n 7, .inl (iA (F 7)))), (o 8, .inr (1, [.int (iz 1600), .ref (r 8), .int (iz (z 8))])), (r 8, .inl (cI, n 8, .inl (iA (F 8)))), (o 9, .inr (1, [.int (iz 1600), .ref (r 9), .int (iz (z 9))])), (r 9, .inl (cI, n 9, .inl (iA (F 9)))), (o 12, .inr (4, [.int (iz (z 17)), .int (iz (z 18)), .int (iz (z 19)), .int (iz (z 20)), .int (iz (z 21))])), (o 10, .inr (2, [.ref (r 10), .int (iz (z 10)), .int (iz (z 22))])), (r 10, .inl (cB, n 10, .inl (iA (F 10)))), (o 11, .inr (2, [.ref (r 11), .int (iz (z 11)), .int (iz (z 23))])), (r 11, .inl (cB, n 11, .inl (iA (F 11))))]) (w1 := (eU cI (Eo ((p0 + 1).toNat)) (va_up (va_up (va_up (Er ((p0 + 1).toNat)) 4 r4_53) 5 r5_57) 6 r6_61) (va_up (va_up (va_up (En ((p0 + 1).toNat)) 4 n4_54) 5 n5_58) 6 n6_62) (va_up (va_up (va_up (va_up (Ez ((p0 + 1).toNat)) 4 z4_55) 5 z5_59) 6 z6_63) 9 z9_52) (va_up (va_up (va_up (EF ((p0 + 1).toNat)) 4 F4_56) 5 F5_60) 6 F6_64))) (ws' := ((xU cI cB cE o r n z F G (Eo 0 0)) ++ (eU cI (Eo ((p0 + 1).toNat)) (va_up (va_up (va_up (Er ((p0 + 1).toNat)) 4 r4_53) 5 r5_57) 6 r6_61) (va_up (va_up (va_up (En ((p0 + 1).toNat)) 4 n4_54) 5 n5_58) 6 n6_62) (va_up (va_up (va_up (va_up (Ez ((p0 + 1).toNat)) 4 z4_55) 5 z5_59) 6 z6_63) 9 z9_52) (va_up (va_up (va_up (EF ((p0 + 1).toNat)) 4 F4_56) 5 F5_60) 6 F6_64)))) hP hD [29, 30, 31, 32, 33, 34, 35, 36, 37, 38, 39, 40, 41, 42, 43, 44] [0, 1, 2, 3, 4, 5, 6, 7, 8, 9, 10, 11, 12, 13, 14, 15, 16, 17, 18, 19, 20, 21, 22, 23, 24, 25, 26, 27, 28] [0, 1, 2, 3, 4, 5, 6, 7, 8, 9, 10, 11, 12, 13, 14, 15, 16, 17, 18, 19, 20, 21, 22, 23, 24, 25, 26, 27, 28, 29, 30, 31, 32, 33, 34, 35, 36, 37, 38, 39, 40, 41, 42, 43, 44] rfl rfl (by decide) (by decide) hk1 hFc hP1 hD1 rfl (by decide)
              refine W.eq (g2 := F0 m 91 ls [.int (iz q_51)]) rfl ?_
              try dsimp only at hq_48
              obtain ⟨⟨ha65, hb465⟩, ⟨hb65, hb565⟩, ⟨hc65, hb665⟩, hd65, hr65⟩ := hq_48
              refine lv_istore (lv' := [(6, .int (iz q_51)), (5, .int (iz (100000 + p1))), (4, .ref (Eo ((p0 + 1).toNat) 0)), (0, .ref (o 15)), (1, .int (iz p0)), (2, .int (iz p1)), (3, .int (iz p2))]) hx hb dX5_range_91 hl (by decide) rfl (fun ls hl => ?_)
              refine lv_iload hx hb dX5_range_93 (lv_at hl 0 rfl) ?_
              refine ki_if_eq (tgt := 103) hx hb dX5_range_95 (by decide) (by omega) (by omega) (fun c_66 => ?_) (fun c_66 => ?_)
              · skip
                refine lv_iload hx hb dX5_range_103 (lv_at hl 0 rfl) ?_
                refine ki_if_eq (tgt := 112) hx hb dX5_range_105 (by decide) (by omega) (by omega) (fun c_67 => ?_) (fun c_67 => ?_)
                · skip
                  refine lv_iconst (v := iz 0) hx hb dX5_range_112 (by decide) ?_
                  have he_68 : 0 ≤ Ez ((p0 + 1).toNat) 4 ∧ Ez ((p0 + 1).toNat) 4 ≤ ((En ((p0 + 1).toNat) 4 : Nat) : Int) ∧ ((En ((p0 + 1).toNat) 4 : Nat) : Int) ≤ 20 := (hPE ((p0 + 1).toNat) hj21).1 4 (by decide)
                  have he_69 : 0 ≤ Ez ((p0 + 1).toNat) 5 ∧ Ez ((p0 + 1).toNat) 5 ≤ ((En ((p0 + 1).toNat) 5 : Nat) : Int) ∧ ((En ((p0 + 1).toNat) 5 : Nat) : Int) ≤ 20 := (hPE ((p0 + 1).toNat) hj21).1 5 (by decide)
                  have he_70 : 0 ≤ Ez ((p0 + 1).toNat) 6 ∧ Ez ((p0 + 1).toNat) 6 ≤ ((En ((p0 + 1).toNat) 6 : Nat) : Int) ∧ ((En ((p0 + 1).toNat) 6 : Nat) : Int) ≤ 20 := (hPE ((p0 + 1).toNat) hj21).1 6 (by decide)
                  have hP : va_P (dC, dI) kxCl (((xU cI cB cE o r n z F G (Eo 0 0)) ++ (eU cI (Eo ((p0 + 1).toNat)) (va_up (va_up (va_up (Er ((p0 + 1).toNat)) 4 r4_53) 5 r5_57) 6 r6_61) (va_up (va_up (va_up (En ((p0 + 1).toNat)) 4 n4_54) 5 n5_58) 6 n6_62) (va_up (va_up (va_up (va_up (Ez ((p0 + 1).toNat)) 4 z4_55) 5 z5_59) 6 z6_63) 9 z9_52) (va_up (va_up (va_up (EF ((p0 + 1).toNat)) 4 F4_56) 5 F5_60) 6 F6_64))) ++ (eR cI N ((p0 + 1).toNat) Eo Er En Ez EF)) H := hP
                  have hD : va_D A (((xU cI cB cE o r n z F G (Eo 0 0)) ++ (eU cI (Eo ((p0 + 1).toNat)) (va_up (va_up (va_up (Er ((p0 + 1).toNat)) 4 r4_53) 5 r5_57) 6 r6_61) (va_up (va_up (va_up (En ((p0 + 1).toNat)) 4 n4_54) 5 n5_58) 6 n6_62) (va_up (va_up (va_up (va_up (Ez ((p0 + 1).toNat)) 4 z4_55) 5 z5_59) 6 z6_63) 9 z9_52) (va_up (va_up (va_up (EF ((p0 + 1).toNat)) 4 F4_56) 5 F5_60) 6 F6_64))) ++ (eR cI N ((p0 + 1).toNat) Eo Er En Ez EF)) := hD
                  have hP := eP_unf hj21 hP
                  have hD := eD_unf hj21 hD
                  have hPE71 := hPE.up ((p0 + 1).toNat) (((((hPE ((p0 + 1).toNat) hj21).i 4 (by decide) (show 0 ≤ z4_55 ∧ z4_55 ≤ ((n4_54 : Nat) : Int) ∧ ((n4_54 : Nat) : Int) ≤ 20 by omega) hb465 (by omega)).i 5 (by decide) (show 0 ≤ z5_59 ∧ z5_59 ≤ ((n5_58 : Nat) : Int) ∧ ((n5_58 : Nat) : Int) ≤ 20 by omega) hb565 (by omega)).i 6 (by decide) (show 0 ≤ z6_63 ∧ z6_63 ≤ ((n6_62 : Nat) : Int) ∧ ((n6_62 : Nat) : Int) ≤ 20 by omega) hb665 (by omega)).sc 9 (by decide) (show -2147483648 ≤ z9_52 by omega) (show z9_52 < 2147483648 by omega))
                  have hef71 := hef.up ((p0 + 1).toNat) (z := (va_up (va_up (va_up (va_up (Ez ((p0 + 1).toNat)) 4 z4_55) 5 z5_59) 6 z6_63) 9 z9_52)) (n := (va_up (va_up (va_up (En ((p0 + 1).toNat)) 4 n4_54) 5 n5_58) 6 n6_62)) (F := (va_up (va_up (va_up (EF ((p0 + 1).toNat)) 4 F4_56) 5 F5_60) 6 F6_64)) (fun k hk => (vfr hk _ (by decide) (vfr hk _ (by decide) (vfr hk _ (by decide) (vfr hk _ (by decide) rfl))))) (fun k hk => ⟨(vfr hk _ (by decide) (vfr hk _ (by decide) (vfr hk _ (by decide) rfl))), (vfr hk _ (by decide) (vfr hk _ (by decide) (vfr hk _ (by decide) rfl)))⟩)
                  generalize eEr71 : va_up Er ((p0 + 1).toNat) (va_up (va_up (va_up (Er ((p0 + 1).toNat)) 4 r4_53) 5 r5_57) 6 r6_61) = Er71 at hP hD
                  generalize eEn71 : va_up En ((p0 + 1).toNat) (va_up (va_up (va_up (En ((p0 + 1).toNat)) 4 n4_54) 5 n5_58) 6 n6_62) = En71 at hP hD hPE71 hef71
                  generalize eEz71 : va_up Ez ((p0 + 1).toNat) (va_up (va_up (va_up (va_up (Ez ((p0 + 1).toNat)) 4 z4_55) 5 z5_59) 6 z6_63) 9 z9_52) = Ez71 at hP hD hPE71 hef71
                  generalize eEF71 : va_up EF ((p0 + 1).toNat) (va_up (va_up (va_up (EF ((p0 + 1).toNat)) 4 F4_56) 5 F5_60) 6 F6_64) = EF71 at hP hD hPE71 hef71
                  have hcl71_0 : Ez71 ((p0 + 1).toNat) 0 = Ez ((p0 + 1).toNat) 0 := by rw [← eEz71]; simp (decide := true) only [va_ev, ↓reduceIte]
                  have hcl71_4 : Ez71 ((p0 + 1).toNat) 4 = z4_55 := by rw [← eEz71]; simp (decide := true) only [va_ev, ↓reduceIte]
                  have hcl71_7 : Ez71 ((p0 + 1).toNat) 7 = Ez ((p0 + 1).toNat) 7 := by rw [← eEz71]; simp (decide := true) only [va_ev, ↓reduceIte]
                  have hcl71_9 : Ez71 ((p0 + 1).toNat) 9 = z9_52 := by rw [← eEz71]; simp (decide := true) only [va_ev, ↓reduceIte]
                  have hcF71_4 : EF71 ((p0 + 1).toNat) 4 = F4_56 := by rw [← eEF71]; simp (decide := true) only [va_ev, ↓reduceIte]
                  refine vx_ret ?_
                  exact xk_iret (ov := (fun u : (Int) × (Nat → Nat) × (Nat → Nat) × (Nat → Int) × (Nat → Int → Int) × (Nat → Nat → Nat) × (Nat → Nat → Nat) × (Nat → Nat → Int) × (Nat → Nat → Int → Int) => match u with | (q, r', n', z', F', Er', En', Ez', EF') => some (.int (iz q)))) (post := (fun (u : (Int) × (Nat → Nat) × (Nat → Nat) × (Nat → Int) × (Nat → Int → Int) × (Nat → Nat → Nat) × (Nat → Nat → Nat) × (Nat → Nat → Int) × (Nat → Nat → Int → Int)) (dn dm : Nat) => match u with | (q, r', n', z', F', Er', En', Ez', EF') => xR [16] [] [4, 5, 6, 9] [4, 5, 6] N z F En Ez EF n' z' F' En' Ez' EF' ∧ (dn + xg n' ≤ xg n + 30 ∧ dm + xp n' ≤ xp n + 200) ∧ ((0 ≤ p0 ∧ p0 < z 12) ∧ (1 ≤ p1 ∧ p1 ≤ 99999) ∧ ((p2 = 0 ∧ 0 ≤ Ez ((p0 + 1).toNat) 9 ∧ q = 0 ∧ Ez' ((p0 + 1).toNat) 9 = Ez ((p0 + 1).toNat) 9 ∧ Ez' ((p0 + 1).toNat) 4 = Ez ((p0 + 1).toNat) 4 ∧ EF' ((p0 + 1).toNat) 4 = EF ((p0 + 1).toNat) 4) ∨ (p2 = 0 ∧ Ez ((p0 + 1).toNat) 9 < 0 ∧ Ez ((p0 + 1).toNat) 4 < 20 ∧ q = 1 ∧ Ez' ((p0 + 1).toNat) 9 = Ez ((p0 + 1).toNat) 4 ∧ Ez' ((p0 + 1).toNat) 4 = Ez ((p0 + 1).toNat) 4 + 1 ∧ EF' ((p0 + 1).toNat) 4 (Ez ((p0 + 1).toNat) 4) = 100000 + p1) ∨ (¬ p2 = 0 ∧ q = 0 ∧ Ez' ((p0 + 1).toNat) 9 = Ez ((p0 + 1).toNat) 9 ∧ Ez' ((p0 + 1).toNat) 4 = Ez ((p0 + 1).toNat) 4 ∧ EF' ((p0 + 1).toNat) 4 = EF ((p0 + 1).toNat) 4 ∧ (0 ≤ Ez ((p0 + 1).toNat) 9 → Ez ((p0 + 1).toNat) 9 < Ez ((p0 + 1).toNat) 4 → 100000 + p1 < EF ((p0 + 1).toNat) 4 (Ez ((p0 + 1).toNat) 9))) ∨ (¬ p2 = 0 ∧ q = 1 ∧ 0 ≤ Ez ((p0 + 1).toNat) 9 ∧ (Ez ((p0 + 1).toNat) 9 < Ez ((p0 + 1).toNat) 4 → EF ((p0 + 1).toNat) 4 (Ez ((p0 + 1).toNat) 9) ≤ 100000 + p1) ∧ Ez' ((p0 + 1).toNat) 9 = -1 ∧ Ez' ((p0 + 1).toNat) 4 = Ez ((p0 + 1).toNat) 4 ∧ EF' ((p0 + 1).toNat) 4 = EF ((p0 + 1).toNat) 4)) ∧ (∀ j, j ≠ ((p0 + 1).toNat) → Ez' j = Ez j ∧ EF' j = EF j)))) (ws := (fun u : (Int) × (Nat → Nat) × (Nat → Nat) × (Nat → Int) × (Nat → Int → Int) × (Nat → Nat → Nat) × (Nat → Nat → Nat) × (Nat → Nat → Int) × (Nat → Nat → Int → Int) => match u with | (q, r', n', z', F', Er', En', Ez', EF') => (xU cI cB cE o r' n' z' F' G (Eo 0 0) ++ eP cI N Eo Er' En' Ez' EF'))) (tys := xT cI cB cE) (z := 0) (0, r, n, z, F, Er71, En71, Ez71, EF71) hx hb hr rfl hlocks rfl hP hD hK hS dX5_range_113 (fun dn dm hdn hdm => ⟨⟨hok, hfr, hPE71, hef71⟩, ⟨by omega, by omega⟩, by rcases hr65 with ⟨h1, h2, h3, h5, h6⟩ | ⟨h1, h2, h3, h5⟩; exact ⟨by omega, by omega, Or.inl ⟨by omega, by omega, by omega, by omega, by omega, by rw [hcF71_4, h6]⟩, fun j hj => ⟨by rw [← eEz71]; exact va_up_ne _ _ hj, by rw [← eEF71]; exact va_up_ne _ _ hj⟩⟩; rcases h5.1 with ⟨x1, x2⟩ | ⟨x1, x2, x3⟩; (exfalso; omega); exact ⟨by omega, by omega, Or.inr (Or.inl ⟨by omega, by omega, by omega, by omega, by omega, by omega, by rw [hcF71_4]; exact x3⟩), fun j hj => ⟨by rw [← eEz71]; exact va_up_ne _ _ hj, by rw [← eEF71]; exact va_up_ne _ _ hj⟩⟩⟩) (by omega) (by omega)
                · omega
              · skip
                refine lv_aload_n hx hb dX5_range_98 rfl (lv_at hl 3 rfl) ?_
                refine lv_iconst (v := iz (-1)) hx hb dX5_range_99 (by decide) ?_
                refine va_put (D := (dC, dI)) (ci := 5) (v := .int (iz (-1))) (ty := .int) (C := RX5) (T := TX5) (N := 16) hx hb hts kt_X5 tyX5 tyX5_ok nmX5 hown hK hP hD hS 0 rfl rfl 10 (by decide) (kx_word hG kq_18_xrows_26 rfl) (fun _ h9 => h9) rfl (by decide +kernel) rfl rfl (Nat.le_of_ble_eq_true rfl) dX5_range_100 (fun H locs hP hD hS => ?_)
                have hP : va_P (dC, dI) kxCl (((xU cI cB cE o r n (va_up z 16 (-1)) F G (Eo 0 0)) ++ (eU cI (Eo ((p0 + 1).toNat)) (va_up (va_up (va_up (Er ((p0 + 1).toNat)) 4 r4_53) 5 r5_57) 6 r6_61) (va_up (va_up (va_up (En ((p0 + 1).toNat)) 4 n4_54) 5 n5_58) 6 n6_62) (va_up (va_up (va_up (va_up (Ez ((p0 + 1).toNat)) 4 z4_55) 5 z5_59) 6 z6_63) 9 z9_52) (va_up (va_up (va_up (EF ((p0 + 1).toNat)) 4 F4_56) 5 F5_60) 6 F6_64))) ++ (eR cI N ((p0 + 1).toNat) Eo Er En Ez EF)) H := hP
                have hD : va_D A (((xU cI cB cE o r n (va_up z 16 (-1)) F G (Eo 0 0)) ++ (eU cI (Eo ((p0 + 1).toNat)) (va_up (va_up (va_up (Er ((p0 + 1).toNat)) 4 r4_53) 5 r5_57) 6 r6_61) (va_up (va_up (va_up (En ((p0 + 1).toNat)) 4 n4_54) 5 n5_58) 6 n6_62) (va_up (va_up (va_up (va_up (Ez ((p0 + 1).toNat)) 4 z4_55) 5 z5_59) 6 z6_63) 9 z9_52) (va_up (va_up (va_up (EF ((p0 + 1).toNat)) 4 F4_56) 5 F5_60) 6 F6_64))) ++ (eR cI N ((p0 + 1).toNat) Eo Er En Ez EF)) := hD
                refine lv_iload hx hb dX5_range_103 (lv_at hl 0 rfl) ?_
                refine ki_if_eq (tgt := 112) hx hb dX5_range_105 (by decide) (by omega) (by omega) (fun c_72 => ?_) (fun c_72 => ?_)
                · omega
                · skip
                  refine lv_iconst (v := iz 1) hx hb dX5_range_108 (by decide) ?_
                  refine lv_goto (tgt := 113) hx hb dX5_range_109 (by decide) ?_
                  have he_73 : 0 ≤ Ez ((p0 + 1).toNat) 4 ∧ Ez ((p0 + 1).toNat) 4 ≤ ((En ((p0 + 1).toNat) 4 : Nat) : Int) ∧ ((En ((p0 + 1).toNat) 4 : Nat) : Int) ≤ 20 := (hPE ((p0 + 1).toNat) hj21).1 4 (by decide)
                  have he_74 : 0 ≤ Ez ((p0 + 1).toNat) 5 ∧ Ez ((p0 + 1).toNat) 5 ≤ ((En ((p0 + 1).toNat) 5 : Nat) : Int) ∧ ((En ((p0 + 1).toNat) 5 : Nat) : Int) ≤ 20 := (hPE ((p0 + 1).toNat) hj21).1 5 (by decide)
                  have he_75 : 0 ≤ Ez ((p0 + 1).toNat) 6 ∧ Ez ((p0 + 1).toNat) 6 ≤ ((En ((p0 + 1).toNat) 6 : Nat) : Int) ∧ ((En ((p0 + 1).toNat) 6 : Nat) : Int) ≤ 20 := (hPE ((p0 + 1).toNat) hj21).1 6 (by decide)
                  have hP : va_P (dC, dI) kxCl (((xU cI cB cE o r n (va_up z 16 (-1)) F G (Eo 0 0)) ++ (eU cI (Eo ((p0 + 1).toNat)) (va_up (va_up (va_up (Er ((p0 + 1).toNat)) 4 r4_53) 5 r5_57) 6 r6_61) (va_up (va_up (va_up (En ((p0 + 1).toNat)) 4 n4_54) 5 n5_58) 6 n6_62) (va_up (va_up (va_up (va_up (Ez ((p0 + 1).toNat)) 4 z4_55) 5 z5_59) 6 z6_63) 9 z9_52) (va_up (va_up (va_up (EF ((p0 + 1).toNat)) 4 F4_56) 5 F5_60) 6 F6_64))) ++ (eR cI N ((p0 + 1).toNat) Eo Er En Ez EF)) H := hP
                  have hD : va_D A (((xU cI cB cE o r n (va_up z 16 (-1)) F G (Eo 0 0)) ++ (eU cI (Eo ((p0 + 1).toNat)) (va_up (va_up (va_up (Er ((p0 + 1).toNat)) 4 r4_53) 5 r5_57) 6 r6_61) (va_up (va_up (va_up (En ((p0 + 1).toNat)) 4 n4_54) 5 n5_58) 6 n6_62) (va_up (va_up (va_up (va_up (Ez ((p0 + 1).toNat)) 4 z4_55) 5 z5_59) 6 z6_63) 9 z9_52) (va_up (va_up (va_up (EF ((p0 + 1).toNat)) 4 F4_56) 5 F5_60) 6 F6_64))) ++ (eR cI N ((p0 + 1).toNat) Eo Er En Ez EF)) := hD
                  have hP := eP_unf hj21 hP
                  have hD := eD_unf hj21 hD
                  have hPE76 := hPE.up ((p0 + 1).toNat) (((((hPE ((p0 + 1).toNat) hj21).i 4 (by decide) (show 0 ≤ z4_55 ∧ z4_55 ≤ ((n4_54 : Nat) : Int) ∧ ((n4_54 : Nat) : Int) ≤ 20 by omega) hb465 (by omega)).i 5 (by decide) (show 0 ≤ z5_59 ∧ z5_59 ≤ ((n5_58 : Nat) : Int) ∧ ((n5_58 : Nat) : Int) ≤ 20 by omega) hb565 (by omega)).i 6 (by decide) (show 0 ≤ z6_63 ∧ z6_63 ≤ ((n6_62 : Nat) : Int) ∧ ((n6_62 : Nat) : Int) ≤ 20 by omega) hb665 (by omega)).sc 9 (by decide) (show -2147483648 ≤ z9_52 by omega) (show z9_52 < 2147483648 by omega))
                  have hef76 := hef.up ((p0 + 1).toNat) (z := (va_up (va_up (va_up (va_up (Ez ((p0 + 1).toNat)) 4 z4_55) 5 z5_59) 6 z6_63) 9 z9_52)) (n := (va_up (va_up (va_up (En ((p0 + 1).toNat)) 4 n4_54) 5 n5_58) 6 n6_62)) (F := (va_up (va_up (va_up (EF ((p0 + 1).toNat)) 4 F4_56) 5 F5_60) 6 F6_64)) (fun k hk => (vfr hk _ (by decide) (vfr hk _ (by decide) (vfr hk _ (by decide) (vfr hk _ (by decide) rfl))))) (fun k hk => ⟨(vfr hk _ (by decide) (vfr hk _ (by decide) (vfr hk _ (by decide) rfl))), (vfr hk _ (by decide) (vfr hk _ (by decide) (vfr hk _ (by decide) rfl)))⟩)
                  generalize eEr76 : va_up Er ((p0 + 1).toNat) (va_up (va_up (va_up (Er ((p0 + 1).toNat)) 4 r4_53) 5 r5_57) 6 r6_61) = Er76 at hP hD
                  generalize eEn76 : va_up En ((p0 + 1).toNat) (va_up (va_up (va_up (En ((p0 + 1).toNat)) 4 n4_54) 5 n5_58) 6 n6_62) = En76 at hP hD hPE76 hef76
                  generalize eEz76 : va_up Ez ((p0 + 1).toNat) (va_up (va_up (va_up (va_up (Ez ((p0 + 1).toNat)) 4 z4_55) 5 z5_59) 6 z6_63) 9 z9_52) = Ez76 at hP hD hPE76 hef76
                  generalize eEF76 : va_up EF ((p0 + 1).toNat) (va_up (va_up (va_up (EF ((p0 + 1).toNat)) 4 F4_56) 5 F5_60) 6 F6_64) = EF76 at hP hD hPE76 hef76
                  have hcl76_0 : Ez76 ((p0 + 1).toNat) 0 = Ez ((p0 + 1).toNat) 0 := by rw [← eEz76]; simp (decide := true) only [va_ev, ↓reduceIte]
                  have hcl76_4 : Ez76 ((p0 + 1).toNat) 4 = z4_55 := by rw [← eEz76]; simp (decide := true) only [va_ev, ↓reduceIte]
                  have hcl76_7 : Ez76 ((p0 + 1).toNat) 7 = Ez ((p0 + 1).toNat) 7 := by rw [← eEz76]; simp (decide := true) only [va_ev, ↓reduceIte]
                  have hcl76_9 : Ez76 ((p0 + 1).toNat) 9 = z9_52 := by rw [← eEz76]; simp (decide := true) only [va_ev, ↓reduceIte]
                  have hcF76_4 : EF76 ((p0 + 1).toNat) 4 = F4_56 := by rw [← eEF76]; simp (decide := true) only [va_ev, ↓reduceIte]
                  have hxz_77 : -2147483648 ≤ z 16 ∧ z 16 < 2147483648 := hok.2.2.2.1 16
                  have hok78 : xOk n (va_up z 16 (-1)) F := (hok.s 16 (by decide) (show -2147483648 ≤ (-1) ∧ (-1) < 2147483648 by omega) (by omega))
                  have hfr78 : xFr [16] [] z F (va_up z 16 (-1)) F := (hfr.uz 16 (by decide) _)
                  refine vx_ret ?_
                  exact xk_iret (ov := (fun u : (Int) × (Nat → Nat) × (Nat → Nat) × (Nat → Int) × (Nat → Int → Int) × (Nat → Nat → Nat) × (Nat → Nat → Nat) × (Nat → Nat → Int) × (Nat → Nat → Int → Int) => match u with | (q, r', n', z', F', Er', En', Ez', EF') => some (.int (iz q)))) (post := (fun (u : (Int) × (Nat → Nat) × (Nat → Nat) × (Nat → Int) × (Nat → Int → Int) × (Nat → Nat → Nat) × (Nat → Nat → Nat) × (Nat → Nat → Int) × (Nat → Nat → Int → Int)) (dn dm : Nat) => match u with | (q, r', n', z', F', Er', En', Ez', EF') => xR [16] [] [4, 5, 6, 9] [4, 5, 6] N z F En Ez EF n' z' F' En' Ez' EF' ∧ (dn + xg n' ≤ xg n + 30 ∧ dm + xp n' ≤ xp n + 200) ∧ ((0 ≤ p0 ∧ p0 < z 12) ∧ (1 ≤ p1 ∧ p1 ≤ 99999) ∧ ((p2 = 0 ∧ 0 ≤ Ez ((p0 + 1).toNat) 9 ∧ q = 0 ∧ Ez' ((p0 + 1).toNat) 9 = Ez ((p0 + 1).toNat) 9 ∧ Ez' ((p0 + 1).toNat) 4 = Ez ((p0 + 1).toNat) 4 ∧ EF' ((p0 + 1).toNat) 4 = EF ((p0 + 1).toNat) 4) ∨ (p2 = 0 ∧ Ez ((p0 + 1).toNat) 9 < 0 ∧ Ez ((p0 + 1).toNat) 4 < 20 ∧ q = 1 ∧ Ez' ((p0 + 1).toNat) 9 = Ez ((p0 + 1).toNat) 4 ∧ Ez' ((p0 + 1).toNat) 4 = Ez ((p0 + 1).toNat) 4 + 1 ∧ EF' ((p0 + 1).toNat) 4 (Ez ((p0 + 1).toNat) 4) = 100000 + p1) ∨ (¬ p2 = 0 ∧ q = 0 ∧ Ez' ((p0 + 1).toNat) 9 = Ez ((p0 + 1).toNat) 9 ∧ Ez' ((p0 + 1).toNat) 4 = Ez ((p0 + 1).toNat) 4 ∧ EF' ((p0 + 1).toNat) 4 = EF ((p0 + 1).toNat) 4 ∧ (0 ≤ Ez ((p0 + 1).toNat) 9 → Ez ((p0 + 1).toNat) 9 < Ez ((p0 + 1).toNat) 4 → 100000 + p1 < EF ((p0 + 1).toNat) 4 (Ez ((p0 + 1).toNat) 9))) ∨ (¬ p2 = 0 ∧ q = 1 ∧ 0 ≤ Ez ((p0 + 1).toNat) 9 ∧ (Ez ((p0 + 1).toNat) 9 < Ez ((p0 + 1).toNat) 4 → EF ((p0 + 1).toNat) 4 (Ez ((p0 + 1).toNat) 9) ≤ 100000 + p1) ∧ Ez' ((p0 + 1).toNat) 9 = -1 ∧ Ez' ((p0 + 1).toNat) 4 = Ez ((p0 + 1).toNat) 4 ∧ EF' ((p0 + 1).toNat) 4 = EF ((p0 + 1).toNat) 4)) ∧ (∀ j, j ≠ ((p0 + 1).toNat) → Ez' j = Ez j ∧ EF' j = EF j)))) (ws := (fun u : (Int) × (Nat → Nat) × (Nat → Nat) × (Nat → Int) × (Nat → Int → Int) × (Nat → Nat → Nat) × (Nat → Nat → Nat) × (Nat → Nat → Int) × (Nat → Nat → Int → Int) => match u with | (q, r', n', z', F', Er', En', Ez', EF') => (xU cI cB cE o r' n' z' F' G (Eo 0 0) ++ eP cI N Eo Er' En' Ez' EF'))) (tys := xT cI cB cE) (z := 1) (1, r, n, (va_up z 16 (-1)), F, Er76, En76, Ez76, EF76) hx hb hr rfl hlocks rfl hP hD hK hS dX5_range_113 (fun dn dm hdn hdm => ⟨⟨hok78, hfr78, hPE76, hef76⟩, ⟨by omega, by omega⟩, by rcases hr65 with ⟨h1, h2, h3, h5, h6⟩ | ⟨h1, h2, h3, h5⟩; exact ⟨by omega, by omega, Or.inl ⟨by omega, by omega, by omega, by omega, by omega, by rw [hcF76_4, h6]⟩, fun j hj => ⟨by rw [← eEz76]; exact va_up_ne _ _ hj, by rw [← eEF76]; exact va_up_ne _ _ hj⟩⟩; rcases h5.1 with ⟨x1, x2⟩ | ⟨x1, x2, x3⟩; (exfalso; omega); exact ⟨by omega, by omega, Or.inr (Or.inl ⟨by omega, by omega, by omega, by omega, by omega, by omega, by rw [hcF76_4]; exact x3⟩), fun j hj => ⟨by rw [← eEz76]; exact va_up_ne _ _ hj, by rw [← eEF76]; exact va_up_ne _ _ hj⟩⟩⟩) (by omega) (by omega)
            · omega
          · skip
            refine lv_aload hx hb dX5_range_45 (lv_at hl 0 rfl) ?_
            refine va_getN (D := (dC, dI)) (ci := 0) (v := .ref (Eo ((p0 + 1).toNat) 5)) (C := RX0) (T := TX0) (N := 12) hx hb hts kt_X0 hown hK hP 29 rfl rfl 5 (by decide) (va_Nw.use rfl (kx_nf hG kq_19_xouts_22)) (fun _ h9 => h9) rfl dX5_range_47 ?_
            have he_79 : 0 ≤ Ez ((p0 + 1).toNat) 4 ∧ Ez ((p0 + 1).toNat) 4 ≤ ((En ((p0 + 1).toNat) 4 : Nat) : Int) ∧ ((En ((p0 + 1).toNat) 4 : Nat) : Int) ≤ 20 := (hPE ((p0 + 1).toNat) hj21).1 4 (by decide)
            have he_80 : 0 ≤ Ez ((p0 + 1).toNat) 5 ∧ Ez ((p0 + 1).toNat) 5 ≤ ((En ((p0 + 1).toNat) 5 : Nat) : Int) ∧ ((En ((p0 + 1).toNat) 5 : Nat) : Int) ≤ 20 := (hPE ((p0 + 1).toNat) hj21).1 5 (by decide)
            have he_81 : 0 ≤ Ez ((p0 + 1).toNat) 6 ∧ Ez ((p0 + 1).toNat) 6 ≤ ((En ((p0 + 1).toNat) 6 : Nat) : Int) ∧ ((En ((p0 + 1).toNat) 6 : Nat) : Int) ≤ 20 := (hPE ((p0 + 1).toNat) hj21).1 6 (by decide)
            have hPc := hP.sub (ws' := (sU cI 20 (Eo ((p0 + 1).toNat) 5) (Eo ((p0 + 1).toNat) 6) (Eo ((p0 + 1).toNat) 7) (Eo ((p0 + 1).toNat) 8) (Er ((p0 + 1).toNat) 4) (Er ((p0 + 1).toNat) 5) (Er ((p0 + 1).toNat) 6) (En ((p0 + 1).toNat) 4) (En ((p0 + 1).toNat) 5) (En ((p0 + 1).toNat) 6) (Ez ((p0 + 1).toNat) 4) (Ez ((p0 + 1).toNat) 5) (Ez ((p0 + 1).toNat) 6) (EF ((p0 + 1).toNat) 4) (EF ((p0 + 1).toNat) 5) (EF ((p0 + 1).toNat) 6))) [38, 39, 40, 41, 42, 43, 44] rfl
            refine xk_pure (va_runV (As := []) (rest := []) ⟨hx, hb, hml, hown, hts⟩ (x_sfull l dC dI cI cB cE 20 (Eo ((p0 + 1).toNat) 5) (Eo ((p0 + 1).toNat) 6) (Eo ((p0 + 1).toNat) 7) (Eo ((p0 + 1).toNat) 8) (Er ((p0 + 1).toNat) 4) (Er ((p0 + 1).toNat) 5) (Er ((p0 + 1).toNat) 6) (En ((p0 + 1).toNat) 4) (En ((p0 + 1).toNat) 5) (En ((p0 + 1).toNat) 6) (Ez ((p0 + 1).toNat) 4) (Ez ((p0 + 1).toNat) 5) (Ez ((p0 + 1).toNat) 6) (EF ((p0 + 1).toNat) 4) (EF ((p0 + 1).toNat) 5) (EF ((p0 + 1).toNat) 6)  H.size (by omega) ((hPE ((p0 + 1).toNat) hj21).2.1 4) (by omega) ((hPE ((p0 + 1).toNat) hj21).2.1 5) (by omega) ((hPE ((p0 + 1).toNat) hj21).2.1 6)) (cwV 0 hts (kx_gV kq_21_xcalls_21 kq_21_xcalls_22 kq_21_xcalls_23 kq_15_xspan_53 kq_21_xcalls_24 rfl) rfl rfl rfl (by decide +kernel) ⟨Nat.le_of_ble_eq_true rfl, Nat.le_of_ble_eq_true rfl⟩) ⟨pPre_blind, va_recv hK hPc (ci := 3) (q0 := 0) rfl rfl, pPre_give hPc hK hG⟩ rfl rfl hl.1 rfl (lv_room (Nat.le_of_ble_eq_true rfl)) dX5_range_50 ⟨show (0 + dn_4) + 0 ≤ 200 from (by omega), show (0 + dm_5) + 0 ≤ 60000 from (by omega)⟩) hS (fun z_83 locs hq_82 hS => ?_)
            refine W.eq (g2 := F0 m 53 ls [.int (iz z_83)]) rfl ?_
            try dsimp only at hq_82
            rcases hq_82 with ⟨rfl, hq_82⟩ | ⟨rfl, hq_82⟩
            · skip
              refine ki_if_eq (tgt := 64) hx hb dX5_range_53 (by decide) (by omega) (by omega) (fun c_84 => ?_) (fun c_84 => ?_)
              · omega
              · skip
                have hP := eP_un0 hj21 hP
                have hD := eD_un0 hj21 hD
                exact ky_thr_UOE hx hb hlf hown hG hZ hS (hl.1.trans hml.symm) dX5_range_56 dX5_range_59 dX5_range_60 dX5_range_63 htab (Nat.le_of_ble_eq_true rfl) (Nat.le_of_ble_eq_true rfl) (show (0 + dn_4) + 1 ≤ 200 from (by omega)) (show (0 + dm_5) + 6 ≤ 60000 from (by omega)) hlocks (Or.inr (Or.inr (⟨rfl, by first | trivial | omega⟩))) (fun t hvm h1 h2 => ⟨(r, n, z, F, Er, En, Ez, EF), ⟨hok, xFr.rf, hPE, eFr.rf⟩, hP.kept (fun k q hk => h2 q.1 (hP k q hk).lt), va_K.moved hvm hK, hD⟩) hS.2.2 (by omega) (by omega) (by omega) (by omega)
            · skip
              refine ki_if_eq (tgt := 64) hx hb dX5_range_53 (by decide) (by omega) (by omega) (fun c_85 => ?_) (fun c_85 => ?_)
              · skip
                refine lv_ldc (v := 100000) hx hb hown (kx_word hG kq_19_xouts_55 rfl) dX5_range_64 ?_
                refine ki_is (show (100000 : Int32) = iz 100000 by decide) ?_
                refine lv_iload_n hx hb dX5_range_66 rfl (lv_at hl 3 rfl) ?_
                refine ki_iadd hx hb dX5_range_67 ?_
                refine lv_istore (lv' := [(5, .int (iz (100000 + p1))), (4, .ref (Eo ((p0 + 1).toNat) 0)), (0, .ref (o 15)), (1, .int (iz p0)), (2, .int (iz p1)), (3, .int (iz p2))]) hx hb dX5_range_68 hl (by decide) rfl (fun ls hl => ?_)
                refine lv_iload_n hx hb dX5_range_70 rfl (lv_at hl 5 rfl) ?_
                refine ki_if_eq (tgt := 84) hx hb dX5_range_71 (by decide) (by omega) (by omega) (fun c_86 => ?_) (fun c_86 => ?_)
                · skip
                  refine lv_aload hx hb dX5_range_84 (lv_at hl 1 rfl) ?_
                  refine lv_iload hx hb dX5_range_86 (lv_at hl 0 rfl) ?_
                  have hPc := hP.sub (ws' := (eU cI (Eo ((p0 + 1).toNat)) (Er ((p0 + 1).toNat)) (En ((p0 + 1).toNat)) (Ez ((p0 + 1).toNat)) (EF ((p0 + 1).toNat)))) [29, 30, 31, 32, 33, 34, 35, 36, 37, 38, 39, 40, 41, 42, 43, 44] rfl
                  have hDc := hD.sub (ws' := (eU cI (Eo ((p0 + 1).toNat)) (Er ((p0 + 1).toNat)) (En ((p0 + 1).toNat)) (Ez ((p0 + 1).toNat)) (EF ((p0 + 1).toNat)))) [29, 30, 31, 32, 33, 34, 35, 36, 37, 38, 39, 40, 41, 42, 43, 44] (by decide) rfl
                  have hFc := va_free (wc := (eU cI (Eo ((p0 + 1).toNat)) (Er ((p0 + 1).toNat)) (En ((p0 + 1).toNat)) (Ez ((p0 + 1).toNat)) (EF ((p0 + 1).toNat)))) hD hS hA [29, 30, 31, 32, 33, 34, 35, 36, 37, 38, 39, 40, 41, 42, 43, 44] rfl
                  refine xk_call (va_runV (As := [.int (iz (100000 + p1))]) (rest := []) ⟨hx, hb, hml, hown, hts⟩ (x_beginRange l dC dI cI cB cE (Eo ((p0 + 1).toNat)) (Er ((p0 + 1).toNat)) (En ((p0 + 1).toNat)) (Ez ((p0 + 1).toNat)) (EF ((p0 + 1).toNat)) (100000 + p1) H.size (hPE ((p0 + 1).toNat) hj21) (by omega) (by omega)) (cwV 1 hts (kx_gV kq_21_xcalls_70 kq_21_xcalls_71 kq_21_xcalls_72 kq_16_xentry_2 kq_21_xcalls_73 rfl) rfl rfl rfl (by decide +kernel) ⟨Nat.le_of_ble_eq_true rfl, Nat.le_of_ble_eq_true rfl⟩) ⟨kx_blind, va_recv hK hPc (ci := 0) (q0 := 0) rfl rfl, kx_give (ws := []) (tys := []) hPc hDc hK hG hZ hS hFc⟩ rfl rfl hl.1 rfl (lv_room (Nat.le_of_ble_eq_true rfl)) dX5_range_88 ⟨show (0 + dn_4) + 30 ≤ 200 from (by omega), show (0 + dm_5) + 9600 ≤ 60000 from (by omega)⟩) hS (fun q _ h => hFc q h) hFc (fun u dn_88 dm_89 t H locs ht hvm hq_87 hB hk1 hS => ?_)
                  obtain ⟨q_90, z9_91, r4_92, n4_93, z4_94, F4_95, r5_96, n5_97, z5_98, F5_99, r6_100, n6_101, z6_102, F6_103⟩ := u
                  obtain ⟨hP1, hK1, hD1⟩ := hB
                  rw [ht] at hP1
                  obtain ⟨hP, hD⟩ := xj_pool (wr := [(o 15, .inr (5, [.ref (o 16), .ref (Eo 0 0), .int (iz (z 12)), .int (iz (z 13)), .int (iz (z 14)), .ref (o 0), .ref (o 1), .int (iz (z 15)), .ref (o 13), .ref (o 14), .int (iz (z 16)), .ref (o 2), .ref (o 12), .ref (o 3), .ref (o 10), .ref (o 11)])), (o 16, .inl (cE, 80, .inr (.inr (.inr (.inr G))))), (o 0, .inr (1, [.int (iz 80), .ref (r 0), .int (iz (z 0))])), (r 0, .inl (cI, n 0, .inl (iA (F 0)))), (o 1, .inr (1, [.int (iz 80), .ref (r 1), .int (iz (z 1))])), (r 1, .inl (cI, n 1, .inl (iA (F 1)))), (o 2, .inr (1, [.int (iz 80), .ref (r 2), .int (iz (z 2))])), (r 2, .inl (cI, n 2, .inl (iA (F 2)))), (o 3, .inr (1, [.int (iz 80), .ref (r 3), .int (iz (z 3))])), (r 3, .inl (cI, n 3, .inl (iA (F 3)))), (o 13, .inr (3, [.ref (o 4), .ref (o 5), .ref (o 6)])), (o 4, .inr (1, [.int (iz 1600), .ref (r 4), .int (iz (z 4))])), (r 4, .inl (cI, n 4, .inl (iA (F 4)))), (o 5, .inr (1, [.int (iz 1600), .ref (r 5), .int (iz (z 5))])), (r 5, .inl (cI, n 5, .inl (iA (F 5)))), (o 6, .inr (1, [.int (iz 1600), .ref (r 6), .int (iz (z 6))])), (r 6, .inl (cI, n 6, .inl (iA (F 6)))), (o 14, .inr (3, [.ref (o 7), .ref (o 8), .ref (o 9)])), (o 7, .inr (1, [.int (iz 1600), .ref (r 7), .int (iz (z 7))])), (r 7, .inl (cI, n 7, .inl (iA (F 7)))), (o 8, .inr (1, [.int (iz 1600), .ref (r 8), .int (iz (z 8))])), (r 8, .inl (cI, n 8, .inl (iA (F 8)))), (o 9, .inr (1, [.int (iz 1600), .ref (r 9), .int (iz (z 9))])), (r 9, .inl (cI, n 9, .inl (iA (F 9)))), (o 12, .inr (4, [.int (iz (z 17)), .int (iz (z 18)), .int (iz (z 19)), .int (iz (z 20)), .int (iz (z 21))])), (o 10, .inr (2, [.ref (r 10), .int (iz (z 10)), .int (iz (z 22))])), (r 10, .inl (cB, n 10, .inl (iA (F 10)))), (o 11, .inr (2, [.ref (r 11), .int (iz (z 11)), .int (iz (z 23))])), (r 11, .inl (cB, n 11, .inl (iA (F 11))))]) (w1 := (eU cI (Eo ((p0 + 1).toNat)) (va_up (va_up (va_up (Er ((p0 + 1).toNat)) 4 r4_92) 5 r5_96) 6 r6_100) (va_up (va_up (va_up (En ((p0 + 1).toNat)) 4 n4_93) 5 n5_97) 6 n6_101) (va_up (va_up (va_up (va_up (Ez ((p0 + 1).toNat)) 4 z4_94) 5 z5_98) 6 z6_102) 9 z9_91) (va_up (va_up (va_up (EF ((p0 + 1).toNat)) 4 F4_95) 5 F5_99) 6 F6_103))) (ws' := ((xU cI cB cE o r n z F G (Eo 0 0)) ++ (eU cI (Eo ((p0 + 1).toNat)) (va_up (va_up (va_up (Er ((p0 + 1).toNat)) 4 r4_92) 5 r5_96) 6 r6_100) (va_up (va_up (va_up (En ((p0 + 1).toNat)) 4 n4_93) 5 n5_97) 6 n6_101) (va_up (va_up (va_up (va_up (Ez ((p0 + 1).toNat)) 4 z4_94) 5 z5_98) 6 z6_102) 9 z9_91) (va_up (va_up (va_up (EF ((p0 + 1).toNat)) 4 F4_95) 5 F5_99) 6 F6_103)))) hP hD [29, 30, 31, 32, 33, 34, 35, 36, 37, 38, 39, 40, 41, 42, 43, 44] [0, 1, 2, 3, 4, 5, 6, 7, 8, 9, 10, 11, 12, 13, 14, 15, 16, 17, 18, 19, 20, 21, 22, 23, 24, 25, 26, 27, 28] [0, 1, 2, 3, 4, 5, 6, 7, 8, 9, 10, 11, 12, 13, 14, 15, 16, 17, 18, 19, 20, 21, 22, 23, 24, 25, 26, 27, 28, 29, 30, 31, 32, 33, 34, 35, 36, 37, 38, 39, 40, 41, 42, 43, 44] rfl rfl (by decide) (by decide) hk1 hFc hP1 hD1 rfl (by decide)
                  refine W.eq (g2 := F0 m 91 ls [.int (iz q_90)]) rfl ?_
                  try dsimp only at hq_87
                  obtain ⟨⟨ha104, hb4104⟩, ⟨hb104, hb5104⟩, ⟨hc104, hb6104⟩, hd104, hr104⟩ := hq_87
                  refine lv_istore (lv' := [(6, .int (iz q_90)), (5, .int (iz (100000 + p1))), (4, .ref (Eo ((p0 + 1).toNat) 0)), (0, .ref (o 15)), (1, .int (iz p0)), (2, .int (iz p1)), (3, .int (iz p2))]) hx hb dX5_range_91 hl (by decide) rfl (fun ls hl => ?_)
                  refine lv_iload hx hb dX5_range_93 (lv_at hl 0 rfl) ?_
                  refine ki_if_eq (tgt := 103) hx hb dX5_range_95 (by decide) (by omega) (by omega) (fun c_105 => ?_) (fun c_105 => ?_)
                  · skip
                    refine lv_iload hx hb dX5_range_103 (lv_at hl 0 rfl) ?_
                    refine ki_if_eq (tgt := 112) hx hb dX5_range_105 (by decide) (by omega) (by omega) (fun c_106 => ?_) (fun c_106 => ?_)
                    · skip
                      refine lv_iconst (v := iz 0) hx hb dX5_range_112 (by decide) ?_
                      have hP : va_P (dC, dI) kxCl (((xU cI cB cE o r n z F G (Eo 0 0)) ++ (eU cI (Eo ((p0 + 1).toNat)) (va_up (va_up (va_up (Er ((p0 + 1).toNat)) 4 r4_92) 5 r5_96) 6 r6_100) (va_up (va_up (va_up (En ((p0 + 1).toNat)) 4 n4_93) 5 n5_97) 6 n6_101) (va_up (va_up (va_up (va_up (Ez ((p0 + 1).toNat)) 4 z4_94) 5 z5_98) 6 z6_102) 9 z9_91) (va_up (va_up (va_up (EF ((p0 + 1).toNat)) 4 F4_95) 5 F5_99) 6 F6_103))) ++ (eR cI N ((p0 + 1).toNat) Eo Er En Ez EF)) H := hP
                      have hD : va_D A (((xU cI cB cE o r n z F G (Eo 0 0)) ++ (eU cI (Eo ((p0 + 1).toNat)) (va_up (va_up (va_up (Er ((p0 + 1).toNat)) 4 r4_92) 5 r5_96) 6 r6_100) (va_up (va_up (va_up (En ((p0 + 1).toNat)) 4 n4_93) 5 n5_97) 6 n6_101) (va_up (va_up (va_up (va_up (Ez ((p0 + 1).toNat)) 4 z4_94) 5 z5_98) 6 z6_102) 9 z9_91) (va_up (va_up (va_up (EF ((p0 + 1).toNat)) 4 F4_95) 5 F5_99) 6 F6_103))) ++ (eR cI N ((p0 + 1).toNat) Eo Er En Ez EF)) := hD
                      have hP := eP_unf hj21 hP
                      have hD := eD_unf hj21 hD
                      have hPE107 := hPE.up ((p0 + 1).toNat) (((((hPE ((p0 + 1).toNat) hj21).i 4 (by decide) (show 0 ≤ z4_94 ∧ z4_94 ≤ ((n4_93 : Nat) : Int) ∧ ((n4_93 : Nat) : Int) ≤ 20 by omega) hb4104 (by omega)).i 5 (by decide) (show 0 ≤ z5_98 ∧ z5_98 ≤ ((n5_97 : Nat) : Int) ∧ ((n5_97 : Nat) : Int) ≤ 20 by omega) hb5104 (by omega)).i 6 (by decide) (show 0 ≤ z6_102 ∧ z6_102 ≤ ((n6_101 : Nat) : Int) ∧ ((n6_101 : Nat) : Int) ≤ 20 by omega) hb6104 (by omega)).sc 9 (by decide) (show -2147483648 ≤ z9_91 by omega) (show z9_91 < 2147483648 by omega))
                      have hef107 := hef.up ((p0 + 1).toNat) (z := (va_up (va_up (va_up (va_up (Ez ((p0 + 1).toNat)) 4 z4_94) 5 z5_98) 6 z6_102) 9 z9_91)) (n := (va_up (va_up (va_up (En ((p0 + 1).toNat)) 4 n4_93) 5 n5_97) 6 n6_101)) (F := (va_up (va_up (va_up (EF ((p0 + 1).toNat)) 4 F4_95) 5 F5_99) 6 F6_103)) (fun k hk => (vfr hk _ (by decide) (vfr hk _ (by decide) (vfr hk _ (by decide) (vfr hk _ (by decide) rfl))))) (fun k hk => ⟨(vfr hk _ (by decide) (vfr hk _ (by decide) (vfr hk _ (by decide) rfl))), (vfr hk _ (by decide) (vfr hk _ (by decide) (vfr hk _ (by decide) rfl)))⟩)
                      generalize eEr107 : va_up Er ((p0 + 1).toNat) (va_up (va_up (va_up (Er ((p0 + 1).toNat)) 4 r4_92) 5 r5_96) 6 r6_100) = Er107 at hP hD
                      generalize eEn107 : va_up En ((p0 + 1).toNat) (va_up (va_up (va_up (En ((p0 + 1).toNat)) 4 n4_93) 5 n5_97) 6 n6_101) = En107 at hP hD hPE107 hef107
                      generalize eEz107 : va_up Ez ((p0 + 1).toNat) (va_up (va_up (va_up (va_up (Ez ((p0 + 1).toNat)) 4 z4_94) 5 z5_98) 6 z6_102) 9 z9_91) = Ez107 at hP hD hPE107 hef107
                      generalize eEF107 : va_up EF ((p0 + 1).toNat) (va_up (va_up (va_up (EF ((p0 + 1).toNat)) 4 F4_95) 5 F5_99) 6 F6_103) = EF107 at hP hD hPE107 hef107
                      have hcl107_0 : Ez107 ((p0 + 1).toNat) 0 = Ez ((p0 + 1).toNat) 0 := by rw [← eEz107]; simp (decide := true) only [va_ev, ↓reduceIte]
                      have hcl107_4 : Ez107 ((p0 + 1).toNat) 4 = z4_94 := by rw [← eEz107]; simp (decide := true) only [va_ev, ↓reduceIte]
                      have hcl107_7 : Ez107 ((p0 + 1).toNat) 7 = Ez ((p0 + 1).toNat) 7 := by rw [← eEz107]; simp (decide := true) only [va_ev, ↓reduceIte]
                      have hcl107_9 : Ez107 ((p0 + 1).toNat) 9 = z9_91 := by rw [← eEz107]; simp (decide := true) only [va_ev, ↓reduceIte]
                      have hcF107_4 : EF107 ((p0 + 1).toNat) 4 = F4_95 := by rw [← eEF107]; simp (decide := true) only [va_ev, ↓reduceIte]
                      refine vx_ret ?_
                      exact xk_iret (ov := (fun u : (Int) × (Nat → Nat) × (Nat → Nat) × (Nat → Int) × (Nat → Int → Int) × (Nat → Nat → Nat) × (Nat → Nat → Nat) × (Nat → Nat → Int) × (Nat → Nat → Int → Int) => match u with | (q, r', n', z', F', Er', En', Ez', EF') => some (.int (iz q)))) (post := (fun (u : (Int) × (Nat → Nat) × (Nat → Nat) × (Nat → Int) × (Nat → Int → Int) × (Nat → Nat → Nat) × (Nat → Nat → Nat) × (Nat → Nat → Int) × (Nat → Nat → Int → Int)) (dn dm : Nat) => match u with | (q, r', n', z', F', Er', En', Ez', EF') => xR [16] [] [4, 5, 6, 9] [4, 5, 6] N z F En Ez EF n' z' F' En' Ez' EF' ∧ (dn + xg n' ≤ xg n + 30 ∧ dm + xp n' ≤ xp n + 200) ∧ ((0 ≤ p0 ∧ p0 < z 12) ∧ (1 ≤ p1 ∧ p1 ≤ 99999) ∧ ((p2 = 0 ∧ 0 ≤ Ez ((p0 + 1).toNat) 9 ∧ q = 0 ∧ Ez' ((p0 + 1).toNat) 9 = Ez ((p0 + 1).toNat) 9 ∧ Ez' ((p0 + 1).toNat) 4 = Ez ((p0 + 1).toNat) 4 ∧ EF' ((p0 + 1).toNat) 4 = EF ((p0 + 1).toNat) 4) ∨ (p2 = 0 ∧ Ez ((p0 + 1).toNat) 9 < 0 ∧ Ez ((p0 + 1).toNat) 4 < 20 ∧ q = 1 ∧ Ez' ((p0 + 1).toNat) 9 = Ez ((p0 + 1).toNat) 4 ∧ Ez' ((p0 + 1).toNat) 4 = Ez ((p0 + 1).toNat) 4 + 1 ∧ EF' ((p0 + 1).toNat) 4 (Ez ((p0 + 1).toNat) 4) = 100000 + p1) ∨ (¬ p2 = 0 ∧ q = 0 ∧ Ez' ((p0 + 1).toNat) 9 = Ez ((p0 + 1).toNat) 9 ∧ Ez' ((p0 + 1).toNat) 4 = Ez ((p0 + 1).toNat) 4 ∧ EF' ((p0 + 1).toNat) 4 = EF ((p0 + 1).toNat) 4 ∧ (0 ≤ Ez ((p0 + 1).toNat) 9 → Ez ((p0 + 1).toNat) 9 < Ez ((p0 + 1).toNat) 4 → 100000 + p1 < EF ((p0 + 1).toNat) 4 (Ez ((p0 + 1).toNat) 9))) ∨ (¬ p2 = 0 ∧ q = 1 ∧ 0 ≤ Ez ((p0 + 1).toNat) 9 ∧ (Ez ((p0 + 1).toNat) 9 < Ez ((p0 + 1).toNat) 4 → EF ((p0 + 1).toNat) 4 (Ez ((p0 + 1).toNat) 9) ≤ 100000 + p1) ∧ Ez' ((p0 + 1).toNat) 9 = -1 ∧ Ez' ((p0 + 1).toNat) 4 = Ez ((p0 + 1).toNat) 4 ∧ EF' ((p0 + 1).toNat) 4 = EF ((p0 + 1).toNat) 4)) ∧ (∀ j, j ≠ ((p0 + 1).toNat) → Ez' j = Ez j ∧ EF' j = EF j)))) (ws := (fun u : (Int) × (Nat → Nat) × (Nat → Nat) × (Nat → Int) × (Nat → Int → Int) × (Nat → Nat → Nat) × (Nat → Nat → Nat) × (Nat → Nat → Int) × (Nat → Nat → Int → Int) => match u with | (q, r', n', z', F', Er', En', Ez', EF') => (xU cI cB cE o r' n' z' F' G (Eo 0 0) ++ eP cI N Eo Er' En' Ez' EF'))) (tys := xT cI cB cE) (z := 0) (0, r, n, z, F, Er107, En107, Ez107, EF107) hx hb hr rfl hlocks rfl hP hD hK hS dX5_range_113 (fun dn dm hdn hdm => ⟨⟨hok, hfr, hPE107, hef107⟩, ⟨by omega, by omega⟩, by rcases hr104 with ⟨h1, h2, h3, h5, h6⟩ | ⟨h1, h2, h3, h5⟩; exact ⟨by omega, by omega, Or.inl ⟨by omega, by omega, by omega, by omega, by omega, by rw [hcF107_4, h6]⟩, fun j hj => ⟨by rw [← eEz107]; exact va_up_ne _ _ hj, by rw [← eEF107]; exact va_up_ne _ _ hj⟩⟩; rcases h5.1 with ⟨x1, x2⟩ | ⟨x1, x2, x3⟩; (exfalso; omega); exact ⟨by omega, by omega, Or.inr (Or.inl ⟨by omega, by omega, by omega, by omega, by omega, by omega, by rw [hcF107_4]; exact x3⟩), fun j hj => ⟨by rw [← eEz107]; exact va_up_ne _ _ hj, by rw [← eEF107]; exact va_up_ne _ _ hj⟩⟩⟩) (by omega) (by omega)
                    · omega
                  · skip
                    refine lv_aload_n hx hb dX5_range_98 rfl (lv_at hl 3 rfl) ?_
                    refine lv_iconst (v := iz (-1)) hx hb dX5_range_99 (by decide) ?_
                    refine va_put (D := (dC, dI)) (ci := 5) (v := .int (iz (-1))) (ty := .int) (C := RX5) (T := TX5) (N := 16) hx hb hts kt_X5 tyX5 tyX5_ok nmX5 hown hK hP hD hS 0 rfl rfl 10 (by decide) (kx_word hG kq_18_xrows_26 rfl) (fun _ h9 => h9) rfl (by decide +kernel) rfl rfl (Nat.le_of_ble_eq_true rfl) dX5_range_100 (fun H locs hP hD hS => ?_)
                    have hP : va_P (dC, dI) kxCl (((xU cI cB cE o r n (va_up z 16 (-1)) F G (Eo 0 0)) ++ (eU cI (Eo ((p0 + 1).toNat)) (va_up (va_up (va_up (Er ((p0 + 1).toNat)) 4 r4_92) 5 r5_96) 6 r6_100) (va_up (va_up (va_up (En ((p0 + 1).toNat)) 4 n4_93) 5 n5_97) 6 n6_101) (va_up (va_up (va_up (va_up (Ez ((p0 + 1).toNat)) 4 z4_94) 5 z5_98) 6 z6_102) 9 z9_91) (va_up (va_up (va_up (EF ((p0 + 1).toNat)) 4 F4_95) 5 F5_99) 6 F6_103))) ++ (eR cI N ((p0 + 1).toNat) Eo Er En Ez EF)) H := hP
                    have hD : va_D A (((xU cI cB cE o r n (va_up z 16 (-1)) F G (Eo 0 0)) ++ (eU cI (Eo ((p0 + 1).toNat)) (va_up (va_up (va_up (Er ((p0 + 1).toNat)) 4 r4_92) 5 r5_96) 6 r6_100) (va_up (va_up (va_up (En ((p0 + 1).toNat)) 4 n4_93) 5 n5_97) 6 n6_101) (va_up (va_up (va_up (va_up (Ez ((p0 + 1).toNat)) 4 z4_94) 5 z5_98) 6 z6_102) 9 z9_91) (va_up (va_up (va_up (EF ((p0 + 1).toNat)) 4 F4_95) 5 F5_99) 6 F6_103))) ++ (eR cI N ((p0 + 1).toNat) Eo Er En Ez EF)) := hD
                    refine lv_iload hx hb dX5_range_103 (lv_at hl 0 rfl) ?_
                    refine ki_if_eq (tgt := 112) hx hb dX5_range_105 (by decide) (by omega) (by omega) (fun c_108 => ?_) (fun c_108 => ?_)
                    · omega
                    · skip
                      refine lv_iconst (v := iz 1) hx hb dX5_range_108 (by decide) ?_
                      refine lv_goto (tgt := 113) hx hb dX5_range_109 (by decide) ?_
                      have hP : va_P (dC, dI) kxCl (((xU cI cB cE o r n (va_up z 16 (-1)) F G (Eo 0 0)) ++ (eU cI (Eo ((p0 + 1).toNat)) (va_up (va_up (va_up (Er ((p0 + 1).toNat)) 4 r4_92) 5 r5_96) 6 r6_100) (va_up (va_up (va_up (En ((p0 + 1).toNat)) 4 n4_93) 5 n5_97) 6 n6_101) (va_up (va_up (va_up (va_up (Ez ((p0 + 1).toNat)) 4 z4_94) 5 z5_98) 6 z6_102) 9 z9_91) (va_up (va_up (va_up (EF ((p0 + 1).toNat)) 4 F4_95) 5 F5_99) 6 F6_103))) ++ (eR cI N ((p0 + 1).toNat) Eo Er En Ez EF)) H := hP
                      have hD : va_D A (((xU cI cB cE o r n (va_up z 16 (-1)) F G (Eo 0 0)) ++ (eU cI (Eo ((p0 + 1).toNat)) (va_up (va_up (va_up (Er ((p0 + 1).toNat)) 4 r4_92) 5 r5_96) 6 r6_100) (va_up (va_up (va_up (En ((p0 + 1).toNat)) 4 n4_93) 5 n5_97) 6 n6_101) (va_up (va_up (va_up (va_up (Ez ((p0 + 1).toNat)) 4 z4_94) 5 z5_98) 6 z6_102) 9 z9_91) (va_up (va_up (va_up (EF ((p0 + 1).toNat)) 4 F4_95) 5 F5_99) 6 F6_103))) ++ (eR cI N ((p0 + 1).toNat) Eo Er En Ez EF)) := hD
                      have hP := eP_unf hj21 hP
                      have hD := eD_unf hj21 hD
                      have hPE109 := hPE.up ((p0 + 1).toNat) (((((hPE ((p0 + 1).toNat) hj21).i 4 (by decide) (show 0 ≤ z4_94 ∧ z4_94 ≤ ((n4_93 : Nat) : Int) ∧ ((n4_93 : Nat) : Int) ≤ 20 by omega) hb4104 (by omega)).i 5 (by decide) (show 0 ≤ z5_98 ∧ z5_98 ≤ ((n5_97 : Nat) : Int) ∧ ((n5_97 : Nat) : Int) ≤ 20 by omega) hb5104 (by omega)).i 6 (by decide) (show 0 ≤ z6_102 ∧ z6_102 ≤ ((n6_101 : Nat) : Int) ∧ ((n6_101 : Nat) : Int) ≤ 20 by omega) hb6104 (by omega)).sc 9 (by decide) (show -2147483648 ≤ z9_91 by omega) (show z9_91 < 2147483648 by omega))
                      have hef109 := hef.up ((p0 + 1).toNat) (z := (va_up (va_up (va_up (va_up (Ez ((p0 + 1).toNat)) 4 z4_94) 5 z5_98) 6 z6_102) 9 z9_91)) (n := (va_up (va_up (va_up (En ((p0 + 1).toNat)) 4 n4_93) 5 n5_97) 6 n6_101)) (F := (va_up (va_up (va_up (EF ((p0 + 1).toNat)) 4 F4_95) 5 F5_99) 6 F6_103)) (fun k hk => (vfr hk _ (by decide) (vfr hk _ (by decide) (vfr hk _ (by decide) (vfr hk _ (by decide) rfl))))) (fun k hk => ⟨(vfr hk _ (by decide) (vfr hk _ (by decide) (vfr hk _ (by decide) rfl))), (vfr hk _ (by decide) (vfr hk _ (by decide) (vfr hk _ (by decide) rfl)))⟩)
                      generalize eEr109 : va_up Er ((p0 + 1).toNat) (va_up (va_up (va_up (Er ((p0 + 1).toNat)) 4 r4_92) 5 r5_96) 6 r6_100) = Er109 at hP hD
                      generalize eEn109 : va_up En ((p0 + 1).toNat) (va_up (va_up (va_up (En ((p0 + 1).toNat)) 4 n4_93) 5 n5_97) 6 n6_101) = En109 at hP hD hPE109 hef109
                      generalize eEz109 : va_up Ez ((p0 + 1).toNat) (va_up (va_up (va_up (va_up (Ez ((p0 + 1).toNat)) 4 z4_94) 5 z5_98) 6 z6_102) 9 z9_91) = Ez109 at hP hD hPE109 hef109
                      generalize eEF109 : va_up EF ((p0 + 1).toNat) (va_up (va_up (va_up (EF ((p0 + 1).toNat)) 4 F4_95) 5 F5_99) 6 F6_103) = EF109 at hP hD hPE109 hef109
                      have hcl109_0 : Ez109 ((p0 + 1).toNat) 0 = Ez ((p0 + 1).toNat) 0 := by rw [← eEz109]; simp (decide := true) only [va_ev, ↓reduceIte]
                      have hcl109_4 : Ez109 ((p0 + 1).toNat) 4 = z4_94 := by rw [← eEz109]; simp (decide := true) only [va_ev, ↓reduceIte]
                      have hcl109_7 : Ez109 ((p0 + 1).toNat) 7 = Ez ((p0 + 1).toNat) 7 := by rw [← eEz109]; simp (decide := true) only [va_ev, ↓reduceIte]
                      have hcl109_9 : Ez109 ((p0 + 1).toNat) 9 = z9_91 := by rw [← eEz109]; simp (decide := true) only [va_ev, ↓reduceIte]
                      have hcF109_4 : EF109 ((p0 + 1).toNat) 4 = F4_95 := by rw [← eEF109]; simp (decide := true) only [va_ev, ↓reduceIte]
                      have hxz_110 : -2147483648 ≤ z 16 ∧ z 16 < 2147483648 := hok.2.2.2.1 16
                      have hok111 : xOk n (va_up z 16 (-1)) F := (hok.s 16 (by decide) (show -2147483648 ≤ (-1) ∧ (-1) < 2147483648 by omega) (by omega))
                      have hfr111 : xFr [16] [] z F (va_up z 16 (-1)) F := (hfr.uz 16 (by decide) _)
                      refine vx_ret ?_
                      exact xk_iret (ov := (fun u : (Int) × (Nat → Nat) × (Nat → Nat) × (Nat → Int) × (Nat → Int → Int) × (Nat → Nat → Nat) × (Nat → Nat → Nat) × (Nat → Nat → Int) × (Nat → Nat → Int → Int) => match u with | (q, r', n', z', F', Er', En', Ez', EF') => some (.int (iz q)))) (post := (fun (u : (Int) × (Nat → Nat) × (Nat → Nat) × (Nat → Int) × (Nat → Int → Int) × (Nat → Nat → Nat) × (Nat → Nat → Nat) × (Nat → Nat → Int) × (Nat → Nat → Int → Int)) (dn dm : Nat) => match u with | (q, r', n', z', F', Er', En', Ez', EF') => xR [16] [] [4, 5, 6, 9] [4, 5, 6] N z F En Ez EF n' z' F' En' Ez' EF' ∧ (dn + xg n' ≤ xg n + 30 ∧ dm + xp n' ≤ xp n + 200) ∧ ((0 ≤ p0 ∧ p0 < z 12) ∧ (1 ≤ p1 ∧ p1 ≤ 99999) ∧ ((p2 = 0 ∧ 0 ≤ Ez ((p0 + 1).toNat) 9 ∧ q = 0 ∧ Ez' ((p0 + 1).toNat) 9 = Ez ((p0 + 1).toNat) 9 ∧ Ez' ((p0 + 1).toNat) 4 = Ez ((p0 + 1).toNat) 4 ∧ EF' ((p0 + 1).toNat) 4 = EF ((p0 + 1).toNat) 4) ∨ (p2 = 0 ∧ Ez ((p0 + 1).toNat) 9 < 0 ∧ Ez ((p0 + 1).toNat) 4 < 20 ∧ q = 1 ∧ Ez' ((p0 + 1).toNat) 9 = Ez ((p0 + 1).toNat) 4 ∧ Ez' ((p0 + 1).toNat) 4 = Ez ((p0 + 1).toNat) 4 + 1 ∧ EF' ((p0 + 1).toNat) 4 (Ez ((p0 + 1).toNat) 4) = 100000 + p1) ∨ (¬ p2 = 0 ∧ q = 0 ∧ Ez' ((p0 + 1).toNat) 9 = Ez ((p0 + 1).toNat) 9 ∧ Ez' ((p0 + 1).toNat) 4 = Ez ((p0 + 1).toNat) 4 ∧ EF' ((p0 + 1).toNat) 4 = EF ((p0 + 1).toNat) 4 ∧ (0 ≤ Ez ((p0 + 1).toNat) 9 → Ez ((p0 + 1).toNat) 9 < Ez ((p0 + 1).toNat) 4 → 100000 + p1 < EF ((p0 + 1).toNat) 4 (Ez ((p0 + 1).toNat) 9))) ∨ (¬ p2 = 0 ∧ q = 1 ∧ 0 ≤ Ez ((p0 + 1).toNat) 9 ∧ (Ez ((p0 + 1).toNat) 9 < Ez ((p0 + 1).toNat) 4 → EF ((p0 + 1).toNat) 4 (Ez ((p0 + 1).toNat) 9) ≤ 100000 + p1) ∧ Ez' ((p0 + 1).toNat) 9 = -1 ∧ Ez' ((p0 + 1).toNat) 4 = Ez ((p0 + 1).toNat) 4 ∧ EF' ((p0 + 1).toNat) 4 = EF ((p0 + 1).toNat) 4)) ∧ (∀ j, j ≠ ((p0 + 1).toNat) → Ez' j = Ez j ∧ EF' j = EF j)))) (ws := (fun u : (Int) × (Nat → Nat) × (Nat → Nat) × (Nat → Int) × (Nat → Int → Int) × (Nat → Nat → Nat) × (Nat → Nat → Nat) × (Nat → Nat → Int) × (Nat → Nat → Int → Int) => match u with | (q, r', n', z', F', Er', En', Ez', EF') => (xU cI cB cE o r' n' z' F' G (Eo 0 0) ++ eP cI N Eo Er' En' Ez' EF'))) (tys := xT cI cB cE) (z := 1) (1, r, n, (va_up z 16 (-1)), F, Er109, En109, Ez109, EF109) hx hb hr rfl hlocks rfl hP hD hK hS dX5_range_113 (fun dn dm hdn hdm => ⟨⟨hok111, hfr111, hPE109, hef109⟩, ⟨by omega, by omega⟩, by rcases hr104 with ⟨h1, h2, h3, h5, h6⟩ | ⟨h1, h2, h3, h5⟩; exact ⟨by omega, by omega, Or.inl ⟨by omega, by omega, by omega, by omega, by omega, by rw [hcF109_4, h6]⟩, fun j hj => ⟨by rw [← eEz109]; exact va_up_ne _ _ hj, by rw [← eEF109]; exact va_up_ne _ _ hj⟩⟩; rcases h5.1 with ⟨x1, x2⟩ | ⟨x1, x2, x3⟩; (exfalso; omega); exact ⟨by omega, by omega, Or.inr (Or.inl ⟨by omega, by omega, by omega, by omega, by omega, by omega, by rw [hcF109_4]; exact x3⟩), fun j hj => ⟨by rw [← eEz109]; exact va_up_ne _ _ hj, by rw [← eEF109]; exact va_up_ne _ _ hj⟩⟩⟩) (by omega) (by omega)
                · omega
              · omega
      · skip
        exact ky_thr_IAE hx hb hlf hown hG hZ hS (hl.1.trans hml.symm) dX5_range_18 dX5_range_21 dX5_range_22 dX5_range_25 htab (Nat.le_of_ble_eq_true rfl) (Nat.le_of_ble_eq_true rfl) (show (0 + dn_4) + 1 ≤ 200 from (by omega)) (show (0 + dm_5) + 6 ≤ 60000 from (by omega)) hlocks (Or.inr (Or.inl ⟨rfl, by first | trivial | omega⟩)) (fun t hvm h1 h2 => ⟨(r, n, z, F, Er, En, Ez, EF), ⟨hok, xFr.rf, hPE, eFr.rf⟩, hP.kept (fun k q hk => h2 q.1 (hP k q hk).lt), va_K.moved hvm hK, hD⟩) hS.2.2 (by omega) (by omega) (by omega) (by omega)
