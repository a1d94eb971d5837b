/-! the landed class: an entry -/
abbrev eU (cI : ClassId) (o r n : Nat → Nat) (z : Nat → Int) (F : Nat → Int → Int) : va_W := [(o 0, .inr (0, [.int (iz (z 7)), .int (iz (z 8)), .ref (o 1), .ref (o 2), .ref (o 3), .ref (o 5), .ref (o 4), .int (iz (z 9)), .int (iz (z 10)), .int (iz (z 11)), .int (iz (z 12)), .int (iz (z 13))])), (o 1, .inr (1, [.int (iz 20), .ref (r 0), .int (iz (z 0))])), (r 0, .inl (cI, n 0, .inl (iA (F 0)))), (o 2, .inr (1, [.int (iz 20), .ref (r 1), .int (iz (z 1))])), (r 1, .inl (cI, n 1, .inl (iA (F 1)))), (o 3, .inr (1, [.int (iz 40), .ref (r 2), .int (iz (z 2))])), (r 2, .inl (cI, n 2, .inl (iA (F 2)))), (o 4, .inr (1, [.int (iz 5), .ref (r 3), .int (iz (z 3))])), (r 3, .inl (cI, n 3, .inl (iA (F 3)))), (o 5, .inr (3, [.ref (o 6), .ref (o 7), .ref (o 8)])), (o 6, .inr (1, [.int (iz 20), .ref (r 4), .int (iz (z 4))])), (r 4, .inl (cI, n 4, .inl (iA (F 4)))), (o 7, .inr (1, [.int (iz 20), .ref (r 5), .int (iz (z 5))])), (r 5, .inl (cI, n 5, .inl (iA (F 5)))), (o 8, .inr (1, [.int (iz 20), .ref (r 6), .int (iz (z 6))])), (r 6, .inl (cI, n 6, .inl (iA (F 6))))]
def eL (k : Nat) : Int := if k = 2 then 40 else if k = 3 then 5 else 20
def eOk (n : Nat → Nat) (z : Nat → Int) (F : Nat → Int → Int) : Prop := (∀ k, k < 7 → 0 ≤ z k ∧ z k ≤ (n k : Int) ∧ (n k : Int) ≤ eL k) ∧ (∀ k, iB (F k)) ∧ ∀ k, -2147483648 ≤ z k ∧ z k < 2147483648
theorem eOk.i {n : Nat → Nat} {z : Nat → Int} {F : Nat → Int → Int} (h : eOk n z F) (k : Nat) (hk : k < 7) {n' : Nat} {z' : Int} {F' : Int → Int} (h1 : 0 ≤ z' ∧ z' ≤ (n' : Int) ∧ (n' : Int) ≤ eL k) (h2 : iB F') (h3 : z' < 2147483648) : eOk (va_up n k n') (va_up z k z') (va_up F k F') := by
  refine ⟨fun j hj => ?_, fun j => ?_, fun j => ?_⟩ <;> unfold va_up <;> by_cases e : j = k
  · rw [if_pos e, if_pos e, e]; exact h1
  · rw [if_neg e, if_neg e]; exact h.1 j hj
  · rw [if_pos e]; exact h2
  · rw [if_neg e]; exact h.2.1 j
  · rw [if_pos e]; omega
  · rw [if_neg e]; exact h.2.2 j
theorem eOk.sc {n : Nat → Nat} {z : Nat → Int} {F : Nat → Int → Int} (h : eOk n z F) (k : Nat) (hk : 7 ≤ k) {z' : Int} (h1 : -2147483648 ≤ z') (h3 : z' < 2147483648) : eOk n (va_up z k z') F := by
  refine ⟨fun j hj => ?_, h.2.1, fun j => ?_⟩ <;> unfold va_up <;> by_cases e : j = k
  · omega
  · rw [if_neg e]; exact h.1 j hj
  · rw [if_pos e]; omega
  · rw [if_neg e]; exact h.2.2 j
theorem eOk.f {n : Nat → Nat} {z : Nat → Int} {F : Nat → Int → Int} (h : eOk n z F) (k : Nat) {F' : Int → Int} (h2 : iB F') : eOk n z (va_up F k F') := by
  refine ⟨h.1, fun j => ?_, h.2.2⟩
  unfold va_up
  by_cases e : j = k
  · rw [if_pos e]; exact h2
  · rw [if_neg e]; exact h.2.1 j
theorem kq_16_xentry_0 : (Cond.methodLink RX0 93 yX0_smallOf) ∈ lw_tbl := by decide +kernel
theorem kq_16_xentry_1 : (Cond.static yX0_smallOf) ∈ lw_tbl := by decide +kernel
theorem kq_16_xentry_2 : (Cond.initialized RX0) ∈ lw_tbl := by decide +kernel
theorem kq_16_xentry_3 : (Cond.code yX0_smallOf cX0_smallOf 1 (some .int)) ∈ lw_tbl := by decide +kernel
theorem kq_16_xentry_4 : (Cond.fieldLink RX0 14 "IndexSort$Entry" "signs" "LIndexSort$Ints;") ∈ lw_tbl := by decide +kernel
theorem kq_16_xentry_5 : (Cond.methodLink RX0 58 yX1_add) ∈ lw_tbl := by decide +kernel
theorem kq_16_xentry_6 : (Cond.fieldLink RX0 20 "IndexSort$Entry" "ranks" "LIndexSort$Ints;") ∈ lw_tbl := by decide +kernel
theorem kq_16_xentry_7 : (Cond.methodLink RX0 61 yX0_rankOf) ∈ lw_tbl := by decide +kernel
theorem kq_16_xentry_8 : (Cond.static yX0_rankOf) ∈ lw_tbl := by decide +kernel
theorem kq_16_xentry_9 : (Cond.code yX0_rankOf cX0_rankOf 3 (some .int)) ∈ lw_tbl := by decide +kernel
theorem kq_16_xentry_10 : (Cond.fieldLink RX0 36 "IndexSort$Entry" "openRange" "I") ∈ lw_tbl := by decide +kernel
theorem kq_16_xentry_11 : (Cond.fieldLink RX0 29 "IndexSort$Entry" "pages" "LIndexSort$Spans;") ∈ lw_tbl := by decide +kernel
theorem kq_16_xentry_12 : (Cond.methodLink RX0 65 yX3_size) ∈ lw_tbl := by decide +kernel
theorem kq_16_xentry_13 : (Cond.methodLink RX0 69 yX3_add) ∈ lw_tbl := by decide +kernel
theorem kq_16_xentry_14 : (Cond.methodLink RX0 72 yX3_from) ∈ lw_tbl := by decide +kernel
theorem kq_16_xentry_15 : (Cond.methodLink RX0 75 yX3_endAt) ∈ lw_tbl := by decide +kernel
theorem kq_16_xentry_16 : (Cond.instanceMethod yX3_endAt) ∈ lw_tbl := by decide +kernel
theorem kq_16_xentry_17 : (Cond.selects RX3 yX3_endAt yX3_endAt) ∈ lw_tbl := by decide +kernel
theorem kq_16_xentry_18 : (Cond.code yX3_endAt cX3_endAt 3 none) ∈ lw_tbl := by decide +kernel
theorem kq_16_xentry_19 : (Cond.fieldLink RX0 43 "IndexSort$Entry" "pagesOfRow" "I") ∈ lw_tbl := by decide +kernel
theorem kq_16_xentry_20 : (Cond.fieldLink RX0 46 "IndexSort$Entry" "seesOfRow" "I") ∈ lw_tbl := by decide +kernel
theorem kq_16_xentry_21 : (Cond.fieldLink RX0 49 "IndexSort$Entry" "underRow" "I") ∈ lw_tbl := by decide +kernel
theorem kq_16_xentry_22 : (Cond.fieldLink RX0 23 "IndexSort$Entry" "key" "LIndexSort$Ints;") ∈ lw_tbl := by decide +kernel
theorem kq_16_xentry_23 : (Cond.methodLink RX0 82 yX1_size) ∈ lw_tbl := by decide +kernel
theorem kq_16_xentry_24 : (Cond.methodLink RX0 83 yX1_get) ∈ lw_tbl := by decide +kernel
theorem kq_16_xentry_25 : (Cond.methodLink RX0 102 yX1_orderTo) ∈ lw_tbl := by decide +kernel
theorem kq_16_xentry_26 : (Cond.instanceMethod yX1_orderTo) ∈ lw_tbl := by decide +kernel
theorem kq_16_xentry_27 : (Cond.selects RX1 yX1_orderTo yX1_orderTo) ∈ lw_tbl := by decide +kernel
theorem kq_16_xentry_28 : (Cond.code yX1_orderTo cX1_orderTo 5 (some .int)) ∈ lw_tbl := by decide +kernel
theorem kq_16_xentry_29 : (Cond.methodLink RX0 90 yX0_isDigit) ∈ lw_tbl := by decide +kernel
theorem kq_16_xentry_30 : (Cond.static yX0_isDigit) ∈ lw_tbl := by decide +kernel
theorem kq_16_xentry_31 : (Cond.code yX0_isDigit cX0_isDigit 1 (some .boolean)) ∈ lw_tbl := by decide +kernel
theorem kq_16_xentry_32 : (Cond.methodLink RX0 79 yX1_clear) ∈ lw_tbl := by decide +kernel
theorem kq_16_xentry_33 : (Cond.methodLink RX0 86 yX0_isLetter) ∈ lw_tbl := by decide +kernel
theorem kq_16_xentry_34 : (Cond.static yX0_isLetter) ∈ lw_tbl := by decide +kernel
theorem kq_16_xentry_35 : (Cond.code yX0_isLetter cX0_isLetter 2 (some .boolean)) ∈ lw_tbl := by decide +kernel
theorem kq_16_xentry_36 : (Cond.methodLink RX0 99 yX0_digitsEnd) ∈ lw_tbl := by decide +kernel
theorem kq_16_xentry_37 : (Cond.instanceMethod yX0_digitsEnd) ∈ lw_tbl := by decide +kernel
theorem kq_16_xentry_38 : (Cond.selects RX0 yX0_digitsEnd yX0_digitsEnd) ∈ lw_tbl := by decide +kernel
theorem kq_16_xentry_39 : (Cond.code yX0_digitsEnd cX0_digitsEnd 3 (some .int)) ∈ lw_tbl := by decide +kernel
theorem kq_16_xentry_40 : (Cond.methodLink RX0 96 yX0_addNumber) ∈ lw_tbl := by decide +kernel
theorem kq_16_xentry_41 : (Cond.instanceMethod yX0_addNumber) ∈ lw_tbl := by decide +kernel
theorem kq_16_xentry_42 : (Cond.selects RX0 yX0_addNumber yX0_addNumber) ∈ lw_tbl := by decide +kernel
theorem kq_16_xentry_43 : (Cond.code yX0_addNumber cX0_addNumber 5 none) ∈ lw_tbl := by decide +kernel
set_option maxHeartbeats 4000000 in
set_option maxRecDepth 100000 in
theorem x_smallOf (l : Launch) (dC : Nat → ClassId) (dI : Nat → Nat → Nat) (cI cB cE : ClassId) (p0 : Int) (sz : Nat) (hp01 : -2147483648 ≤ p0) (hp02 : p0 < 2147483648) : Met l yX0_smallOf [.code yX0_smallOf cX0_smallOf 1 (some .int)] ({ frames := 0, cells := 0, slots := 0, locals := 0 }) (va_Pc [.int (iz p0)] (pPre dC dI [] (xT cI cB cE) sz)) (pQ (fun z => some (.int (iz z))) (fun (q : Int) => (65 ≤ p0 ∧ p0 ≤ 90 ∧ q = p0 - 65 + 97) ∨ (¬ (65 ≤ p0 ∧ p0 ≤ 90) ∧ q = p0))) 0 0 (fun _ => False) := by
  refine Met.ofW (cc := cX0_smallOf) (maxL := 1) (ret := (some .int)) (by decide) rfl ?_
  intro p e s m args below meth c s₁ B hml hv
  obtain ⟨rfl, hsz, hP, hK, hG⟩ := hv
  have hx := B.exec
  have hb := B.bytes
  have hr := B.returns
  have hts := kx_hts (a := ([.int (iz p0)] : List Value).toArray) hG
  have hown : s.vm.findClass RX0 = some m.cls := findClass_of_methodNamed B.named
  have hlocks := B.notSynchronized
  subst hsz
  have hS : va_S (fun _ => False) s.heap s.heap [] := va_S.rf
  have hl := lv_entry ([.int (iz p0)]) (n := 1) (Nat.le_of_ble_eq_true rfl)
  rw [lg_entry_eq]
  generalize (lg_sl ([.int (iz p0)]) ++ List.replicate (1 - (lg_sl ([.int (iz p0)])).length) Slot.unset).toArray = ls at hl ⊢
  have hl : lv_has ls 1 [(0, .int (iz p0))] := hl
  refine lv_iload_n hx hb dX0_smallOf_0 rfl (lv_at hl 0 rfl) ?_
  refine lv_bipush (v := iz 65) hx hb dX0_smallOf_1 (by decide) ?_
  refine ki_icmp_lt (tgt := 22) hx hb dX0_smallOf_3 (by decide) (by omega) (by omega) (by omega) (by omega) (fun c_1 => ?_) (fun c_1 => ?_)
  · skip
    refine lv_iload_n hx hb dX0_smallOf_22 rfl (lv_at hl 0 rfl) ?_
    exact xp_iret (z := p0) hx hb hr rfl hlocks rfl hS.2.2 dX0_smallOf_23 (by omega)
  · skip
    refine lv_iload_n hx hb dX0_smallOf_6 rfl (lv_at hl 0 rfl) ?_
    refine lv_bipush (v := iz 90) hx hb dX0_smallOf_7 (by decide) ?_
    refine ki_icmp_gt (tgt := 22) hx hb dX0_smallOf_9 (by decide) (by omega) (by omega) (by omega) (by omega) (fun c_2 => ?_) (fun c_2 => ?_)
    · skip
      refine lv_iload_n hx hb dX0_smallOf_22 rfl (lv_at hl 0 rfl) ?_
      exact xp_iret (z := p0) hx hb hr rfl hlocks rfl hS.2.2 dX0_smallOf_23 (by omega)
    · skip
      refine lv_iload_n hx hb dX0_smallOf_12 rfl (lv_at hl 0 rfl) ?_
      refine lv_bipush (v := iz 65) hx hb dX0_smallOf_13 (by decide) ?_
      refine ki_isub hx hb dX0_smallOf_15 ?_
      refine lv_bipush (v := iz 97) hx hb dX0_smallOf_16 (by decide) ?_
      refine ki_iadd hx hb dX0_smallOf_18 ?_
      refine lv_goto (tgt := 23) hx hb dX0_smallOf_19 (by decide) ?_
      exact xp_iret (z := (p0 - 65) + 97) hx hb hr rfl hlocks rfl hS.2.2 dX0_smallOf_23 (by omega)
set_option maxHeartbeats 4000000 in
set_option maxRecDepth 100000 in
theorem x_isDigit (l : Launch) (dC : Nat → ClassId) (dI : Nat → Nat → Nat) (cI cB cE : ClassId) (p0 : Int) (sz : Nat) (hp01 : -2147483648 ≤ p0) (hp02 : p0 < 2147483648) : Met l yX0_isDigit [.code yX0_isDigit cX0_isDigit 1 (some .boolean)] ({ frames := 0, cells := 0, slots := 0, locals := 0 }) (va_Pc [.int (iz p0)] (pPre dC dI [] (xT cI cB cE) sz)) (pQ (fun z => some (.int (iz z))) (fun (q : Int) => (q = 1 ∧ 48 ≤ p0 ∧ p0 ≤ 57) ∨ (q = 0 ∧ ¬ (48 ≤ p0 ∧ p0 ≤ 57)))) 0 0 (fun _ => False) := by
  refine Met.ofW (cc := cX0_isDigit) (maxL := 1) (ret := (some .boolean)) (by decide) rfl ?_
  intro p e s m args below meth c s₁ B hml hv
  obtain ⟨rfl, hsz, hP, hK, hG⟩ := hv
  have hx := B.exec
  have hb := B.bytes
  have hr := B.returns
  have hts := kx_hts (a := ([.int (iz p0)] : List Value).toArray) hG
  have hown : s.vm.findClass RX0 = some m.cls := findClass_of_methodNamed B.named
  have hlocks := B.notSynchronized
  subst hsz
  have hS : va_S (fun _ => False) s.heap s.heap [] := va_S.rf
  have hl := lv_entry ([.int (iz p0)]) (n := 1) (Nat.le_of_ble_eq_true rfl)
  rw [lg_entry_eq]
  generalize (lg_sl ([.int (iz p0)]) ++ List.replicate (1 - (lg_sl ([.int (iz p0)])).length) Slot.unset).toArray = ls at hl ⊢
  have hl : lv_has ls 1 [(0, .int (iz p0))] := hl
  refine lv_iload_n hx hb dX0_isDigit_0 rfl (lv_at hl 0 rfl) ?_
  refine lv_bipush (v := iz 48) hx hb dX0_isDigit_1 (by decide) ?_
  refine ki_icmp_lt (tgt := 16) hx hb dX0_isDigit_3 (by decide) (by omega) (by omega) (by omega) (by omega) (fun c_1 => ?_) (fun c_1 => ?_)
  · skip
    refine lv_iconst (v := iz 0) hx hb dX0_isDigit_16 (by decide) ?_
    exact xp_iret (z := 0) hx hb hr (mz_bool (by omega)).1 hlocks rfl hS.2.2 dX0_isDigit_17 (by omega)
  · skip
    refine lv_iload_n hx hb dX0_isDigit_6 rfl (lv_at hl 0 rfl) ?_
    refine lv_bipush (v := iz 57) hx hb dX0_isDigit_7 (by decide) ?_
    refine ki_icmp_gt (tgt := 16) hx hb dX0_isDigit_9 (by decide) (by omega) (by omega) (by omega) (by omega) (fun c_2 => ?_) (fun c_2 => ?_)
    · skip
      refine lv_iconst (v := iz 0) hx hb dX0_isDigit_16 (by decide) ?_
      exact xp_iret (z := 0) hx hb hr (mz_bool (by omega)).1 hlocks rfl hS.2.2 dX0_isDigit_17 (by omega)
    · skip
      refine lv_iconst (v := iz 1) hx hb dX0_isDigit_12 (by decide) ?_
      refine lv_goto (tgt := 17) hx hb dX0_isDigit_13 (by decide) ?_
      exact xp_iret (z := 1) hx hb hr (mz_bool (by omega)).1 hlocks rfl hS.2.2 dX0_isDigit_17 (by omega)
set_option maxHeartbeats 4000000 in
set_option maxRecDepth 100000 in
theorem x_isLetter (l : Launch) (dC : Nat → ClassId) (dI : Nat → Nat → Nat) (cI cB cE : ClassId) (p0 : Int) (sz : Nat) (hp01 : -2147483648 ≤ p0) (hp02 : p0 < 2147483648) : Met l yX0_isLetter [.code yX0_isLetter cX0_isLetter 2 (some .boolean)] ({ frames := 1, cells := 0, slots := 0, locals := 20 }) (va_Pc [.int (iz p0)] (pPre dC dI [] (xT cI cB cE) sz)) (pQ (fun z => some (.int (iz z))) (fun (q : Int) => q = 0 ∨ q = 1)) 0 0 (fun _ => False) := by
  refine Met.ofW (cc := cX0_isLetter) (maxL := 2) (ret := (some .boolean)) (by decide) rfl ?_
  intro p e s m args below meth c s₁ B hml hv
  obtain ⟨rfl, hsz, hP, hK, hG⟩ := hv
  have hx := B.exec
  have hb := B.bytes
  have hr := B.returns
  have hts := kx_hts (a := ([.int (iz p0)] : List Value).toArray) hG
  have hown : s.vm.findClass RX0 = some m.cls := findClass_of_methodNamed B.named
  have hlocks := B.notSynchronized
  subst hsz
  have hS : va_S (fun _ => False) s.heap s.heap [] := va_S.rf
  have hl := lv_entry ([.int (iz p0)]) (n := 2) (Nat.le_of_ble_eq_true rfl)
  rw [lg_entry_eq]
  generalize (lg_sl ([.int (iz p0)]) ++ List.replicate (2 - (lg_sl ([.int (iz p0)])).length) Slot.unset).toArray = ls at hl ⊢
  have hl : lv_has ls 2 [(0, .int (iz p0))] := hl
  refine lv_iload_n hx hb dX0_isLetter_0 rfl (lv_at hl 0 rfl) ?_
  refine lv_sipush (v := iz 128) hx hb dX0_isLetter_1 (by decide) ?_
  refine lv_irem hx hb dX0_isLetter_4 (show ¬ iz 128 = 0 by decide) ?_
  refine ki_any (fun z_1 hz_1a hz_1b => ?_)
  have hPc : va_P (dC, dI) kxCl [] s.heap := fun k q h => by simp at h
  refine xk_pure (va_runS (As := [.int (iz z_1)]) (rest := []) ⟨hx, hb, hml, hown, hts⟩ (x_smallOf l dC dI cI cB cE z_1 s.heap.size (by omega) (by omega)) (va_cwS 1 hts (kx_gS kq_16_xentry_0 kq_16_xentry_1 kq_16_xentry_2 kq_16_xentry_3 rfl) rfl rfl rfl (by decide +kernel) ⟨Nat.le_of_ble_eq_true rfl, Nat.le_of_ble_eq_true rfl⟩) ⟨pPre_blind, pPre_give hPc hK hG⟩ rfl rfl hl.1 rfl (lv_room (Nat.le_of_ble_eq_true rfl)) dX0_isLetter_5 ⟨Nat.le_of_ble_eq_true rfl, Nat.le_of_ble_eq_true rfl⟩) hS (fun z_3 locs hq_2 hS => ?_)
  refine W.eq (g2 := F0 m 8 ls [.int (iz z_3)]) rfl ?_
  try dsimp only at hq_2
  refine lv_istore_n (lv' := [(1, .int (iz z_3)), (0, .int (iz p0))]) hx hb dX0_isLetter_8 rfl hl (by decide) rfl (fun ls hl => ?_)
  refine lv_iload_n hx hb dX0_isLetter_9 rfl (lv_at hl 0 rfl) ?_
  refine lv_bipush (v := iz 97) hx hb dX0_isLetter_10 (by decide) ?_
  refine ki_icmp_lt (tgt := 25) hx hb dX0_isLetter_12 (by decide) (by omega) (by omega) (by omega) (by omega) (fun c_4 => ?_) (fun c_4 => ?_)
  · skip
    refine lv_iconst (v := iz 0) hx hb dX0_isLetter_25 (by decide) ?_
    exact xp_iret (z := 0) hx hb hr (mz_bool (by omega)).1 hlocks rfl hS.2.2 dX0_isLetter_26 (by omega)
  · skip
    refine lv_iload_n hx hb dX0_isLetter_15 rfl (lv_at hl 0 rfl) ?_
    refine lv_bipush (v := iz 122) hx hb dX0_isLetter_16 (by decide) ?_
    refine ki_icmp_gt (tgt := 25) hx hb dX0_isLetter_18 (by decide) (by omega) (by omega) (by omega) (by omega) (fun c_5 => ?_) (fun c_5 => ?_)
    · skip
      refine lv_iconst (v := iz 0) hx hb dX0_isLetter_25 (by decide) ?_
      exact xp_iret (z := 0) hx hb hr (mz_bool (by omega)).1 hlocks rfl hS.2.2 dX0_isLetter_26 (by omega)
    · skip
      refine lv_iconst (v := iz 1) hx hb dX0_isLetter_21 (by decide) ?_
      refine lv_goto (tgt := 26) hx hb dX0_isLetter_22 (by decide) ?_
      exact xp_iret (z := 1) hx hb hr (mz_bool (by omega)).1 hlocks rfl hS.2.2 dX0_isLetter_26 (by omega)
set_option maxHeartbeats 4000000 in
set_option maxRecDepth 100000 in
theorem x_rankOf (l : Launch) (dC : Nat → ClassId) (dI : Nat → Nat → Nat) (cI cB cE : ClassId) (p0 : Int) (sz : Nat) (hp01 : -2147483648 ≤ p0) (hp02 : p0 < 2147483648) (h0 : 0 ≤ p0 ∧ p0 ≤ 255) : Met l yX0_rankOf [.code yX0_rankOf cX0_rankOf 3 (some .int)] ({ frames := 1, cells := 0, slots := 0, locals := 20 }) (va_Pc [.int (iz p0)] (pPre dC dI [] (xT cI cB cE) sz)) (pQ (fun z => some (.int (iz z))) (fun (q : Int) => -2147483648 ≤ q ∧ q < 2147483648)) 0 0 (fun _ => False) := by
  refine Met.ofW (cc := cX0_rankOf) (maxL := 3) (ret := (some .int)) (by decide) rfl ?_
  intro p e s m args below meth c s₁ B hml hv
  obtain ⟨rfl, hsz, hP, hK, hG⟩ := hv
  have hx := B.exec
  have hb := B.bytes
  have hr := B.returns
  have hts := kx_hts (a := ([.int (iz p0)] : List Value).toArray) hG
  have hown : s.vm.findClass RX0 = some m.cls := findClass_of_methodNamed B.named
  have hlocks := B.notSynchronized
  subst hsz
  have hS : va_S (fun _ => False) s.heap s.heap [] := va_S.rf
  have hl := lv_entry ([.int (iz p0)]) (n := 3) (Nat.le_of_ble_eq_true rfl)
  rw [lg_entry_eq]
  generalize (lg_sl ([.int (iz p0)]) ++ List.replicate (3 - (lg_sl ([.int (iz p0)])).length) Slot.unset).toArray = ls at hl ⊢
  have hl : lv_has ls 3 [(0, .int (iz p0))] := hl
  refine lv_iload_n hx hb dX0_rankOf_0 rfl (lv_at hl 0 rfl) ?_
  refine lv_sipush (v := iz 128) hx hb dX0_rankOf_1 (by decide) ?_
  refine ki_irem hx hb dX0_rankOf_4 (by omega) (by omega) (by omega) (by omega) ?_
  refine lv_istore_n (lv' := [(1, .int (iz (p0 % 128))), (0, .int (iz p0))]) hx hb dX0_rankOf_5 rfl hl (by decide) rfl (fun ls hl => ?_)
  refine lv_iload_n hx hb dX0_rankOf_6 rfl (lv_at hl 0 rfl) ?_
  have hPc : va_P (dC, dI) kxCl [] s.heap := fun k q h => by simp at h
  refine xk_pure (va_runS (As := [.int (iz (p0 % 128))]) (rest := []) ⟨hx, hb, hml, hown, hts⟩ (x_smallOf l dC dI cI cB cE (p0 % 128) s.heap.size (by omega) (by omega)) (va_cwS 1 hts (kx_gS kq_16_xentry_0 kq_16_xentry_1 kq_16_xentry_2 kq_16_xentry_3 rfl) rfl rfl rfl (by decide +kernel) ⟨Nat.le_of_ble_eq_true rfl, Nat.le_of_ble_eq_true rfl⟩) ⟨pPre_blind, pPre_give hPc hK hG⟩ rfl rfl hl.1 rfl (lv_room (Nat.le_of_ble_eq_true rfl)) dX0_rankOf_7 ⟨Nat.le_of_ble_eq_true rfl, Nat.le_of_ble_eq_true rfl⟩) hS (fun z_2 locs hq_1 hS => ?_)
  refine W.eq (g2 := F0 m 10 ls [.int (iz z_2)]) rfl ?_
  try dsimp only at hq_1
  refine lv_istore_n (lv' := [(2, .int (iz z_2)), (1, .int (iz (p0 % 128))), (0, .int (iz p0))]) hx hb dX0_rankOf_10 rfl hl (by decide) rfl (fun ls hl => ?_)
  refine lv_iconst (v := iz 4) hx hb dX0_rankOf_11 (by decide) ?_
  refine lv_iload_n hx hb dX0_rankOf_12 rfl (lv_at hl 0 rfl) ?_
  refine ki_imul hx hb dX0_rankOf_13 ?_
  refine lv_iload_n hx hb dX0_rankOf_14 rfl (lv_at hl 0 rfl) ?_
  refine lv_iload_n hx hb dX0_rankOf_15 rfl (lv_at hl 1 rfl) ?_
  refine ki_icmp_eq (tgt := 23) hx hb dX0_rankOf_16 (by decide) (by omega) (by omega) (by omega) (by omega) (fun c_3 => ?_) (fun c_3 => ?_)
  · skip
    refine lv_iconst (v := iz 0) hx hb dX0_rankOf_23 (by decide) ?_
    refine ki_iadd hx hb dX0_rankOf_24 ?_
    refine lv_iload_n hx hb dX0_rankOf_25 rfl (lv_at hl 2 rfl) ?_
    refine lv_iload_n hx hb dX0_rankOf_26 rfl (lv_at hl 1 rfl) ?_
    refine ki_icmp_eq (tgt := 34) hx hb dX0_rankOf_27 (by decide) (by omega) (by omega) (by omega) (by omega) (fun c_4 => ?_) (fun c_4 => ?_)
    · skip
      refine lv_iconst (v := iz 0) hx hb dX0_rankOf_34 (by decide) ?_
      refine ki_iadd hx hb dX0_rankOf_35 ?_
      refine ki_any (fun z_5 hz_5a hz_5b => ?_)
      exact xp_iret (z := z_5) hx hb hr rfl hlocks rfl hS.2.2 dX0_rankOf_36 (by omega)
    · skip
      refine lv_iconst (v := iz 1) hx hb dX0_rankOf_30 (by decide) ?_
      refine lv_goto (tgt := 35) hx hb dX0_rankOf_31 (by decide) ?_
      refine ki_iadd hx hb dX0_rankOf_35 ?_
      refine ki_any (fun z_6 hz_6a hz_6b => ?_)
      exact xp_iret (z := z_6) hx hb hr rfl hlocks rfl hS.2.2 dX0_rankOf_36 (by omega)
  · skip
    refine lv_iconst (v := iz 2) hx hb dX0_rankOf_19 (by decide) ?_
    refine lv_goto (tgt := 24) hx hb dX0_rankOf_20 (by decide) ?_
    refine ki_iadd hx hb dX0_rankOf_24 ?_
    refine lv_iload_n hx hb dX0_rankOf_25 rfl (lv_at hl 2 rfl) ?_
    refine lv_iload_n hx hb dX0_rankOf_26 rfl (lv_at hl 1 rfl) ?_
    refine ki_icmp_eq (tgt := 34) hx hb dX0_rankOf_27 (by decide) (by omega) (by omega) (by omega) (by omega) (fun c_7 => ?_) (fun c_7 => ?_)
    · skip
      refine lv_iconst (v := iz 0) hx hb dX0_rankOf_34 (by decide) ?_
      refine ki_iadd hx hb dX0_rankOf_35 ?_
      refine ki_any (fun z_8 hz_8a hz_8b => ?_)
      exact xp_iret (z := z_8) hx hb hr rfl hlocks rfl hS.2.2 dX0_rankOf_36 (by omega)
    · skip
      refine lv_iconst (v := iz 1) hx hb dX0_rankOf_30 (by decide) ?_
      refine lv_goto (tgt := 35) hx hb dX0_rankOf_31 (by decide) ?_
      refine ki_iadd hx hb dX0_rankOf_35 ?_
      refine ki_any (fun z_9 hz_9a hz_9b => ?_)
      exact xp_iret (z := z_9) hx hb hr rfl hlocks rfl hS.2.2 dX0_rankOf_36 (by omega)
set_option maxHeartbeats 4000000 in
set_option maxRecDepth 100000 in
theorem x_addSign (l : Launch) (dC : Nat → ClassId) (dI : Nat → Nat → Nat) (cI cB cE : ClassId) (o : Nat → Nat) (r : Nat → Nat) (n : Nat → Nat) (z : Nat → Int) (F : Nat → Int → Int) (p0 : Int) (sz : Nat) (hE : eOk n z F) (h0 : 0 ≤ p0 ∧ p0 ≤ 255) (hp01 : -2147483648 ≤ p0) (hp02 : p0 < 2147483648) : Met l yX0_addSign [.code yX0_addSign cX0_addSign 2 none] ({ frames := 3, cells := 20, slots := 4800, locals := 103 }) (va_Pc [.ref (o 0), .int (iz p0)] (kx_Pre dC dI (eU cI o r n z F) (xT cI cB cE) sz)) (xQ (fun _ : Nat × Nat × Int × (Int → Int) × Nat × Nat × Int × (Int → Int) => none) (fun (u : Nat × Nat × Int × (Int → Int) × Nat × Nat × Int × (Int → Int)) (dn dm : Nat) => match u with | (r0', n0', z0', F0', r1', n1', z1', F1') => ((0 ≤ z0' ∧ z0' ≤ (n0' : Int) ∧ (n0' : Int) ≤ 20) ∧ iB F0') ∧ ((0 ≤ z1' ∧ z1' ≤ (n1' : Int) ∧ (n1' : Int) ≤ 20) ∧ iB F1') ∧ (dn ≤ 18 ∧ dm ≤ 120) ∧ iAdd 20 (z 0) (F 0) z0' F0' p0) (fun u t => kx_At dC dI (va_A (eU cI o r n z F) sz) ((fun u : Nat × Nat × Int × (Int → Int) × Nat × Nat × Int × (Int → Int) => match u with | (r0', n0', z0', F0', r1', n1', z1', F1') => (eU cI o (va_up (va_up r 0 r0') 1 r1') (va_up (va_up n 0 n0') 1 n1') (va_up (va_up z 0 z0') 1 z1') (va_up (va_up F 0 F0') 1 F1'))) u) (xT cI cB cE) t) (va_A (eU cI o r n z F) sz)) 20 4800 (va_A (eU cI o r n z F) sz) := by
  refine Met.ofW (cc := cX0_addSign) (maxL := 2) (ret := none) (by decide) rfl ?_
  intro p e s m args below meth c s₁ B hml hv
  obtain ⟨rfl, hsz, hP, hK, hD0, hG, hZ⟩ := hv
  have hx := B.exec
  have hb := B.bytes
  have hr := B.returns
  have hts := kx_hts (a := ([.ref (o 0), .int (iz p0)] : List Value).toArray) hG
  have hown : s.vm.findClass RX0 = some m.cls := findClass_of_methodNamed B.named
  have hlocks := B.notSynchronized
  subst hsz
  have hD := hD0.self (sz := s.heap.size)
  generalize hAe : va_A (eU cI o r n z F) s.heap.size = A at hD hZ ⊢
  have hA : ∀ q : Nat, s.heap.size ≤ q → A q := fun q h => by rw [← hAe]; exact Or.inr h
  have hS : va_S A s.heap s.heap [] := va_S.rf
  have hl := lv_entry ([.ref (o 0), .int (iz p0)]) (n := 2) (Nat.le_of_ble_eq_true rfl)
  rw [lg_entry_eq]
  generalize (lg_sl ([.ref (o 0), .int (iz p0)]) ++ List.replicate (2 - (lg_sl ([.ref (o 0), .int (iz p0)])).length) Slot.unset).toArray = ls at hl ⊢
  have hl : lv_has ls 2 [(0, .ref (o 0)), (1, .int (iz p0))] := hl
  have he0 : 0 ≤ z 0 ∧ z 0 ≤ (n 0 : Int) ∧ (n 0 : Int) ≤ 20 := hE.1 0 (by decide)
  have he1 : 0 ≤ z 1 ∧ z 1 ≤ (n 1 : Int) ∧ (n 1 : Int) ≤ 20 := hE.1 1 (by decide)
  have he2 : 0 ≤ z 2 ∧ z 2 ≤ (n 2 : Int) ∧ (n 2 : Int) ≤ 40 := hE.1 2 (by decide)
  have he3 : 0 ≤ z 3 ∧ z 3 ≤ (n 3 : Int) ∧ (n 3 : Int) ≤ 5 := hE.1 3 (by decide)
  have he4 : 0 ≤ z 4 ∧ z 4 ≤ (n 4 : Int) ∧ (n 4 : Int) ≤ 20 := hE.1 4 (by decide)
  have he5 : 0 ≤ z 5 ∧ z 5 ≤ (n 5 : Int) ∧ (n 5 : Int) ≤ 20 := hE.1 5 (by decide)
  have he6 : 0 ≤ z 6 ∧ z 6 ≤ (n 6 : Int) ∧ (n 6 : Int) ≤ 20 := hE.1 6 (by decide)
  have hbz7 := hE.2.2 7
  have hbz8 := hE.2.2 8
  have hbz9 := hE.2.2 9
  have hbz10 := hE.2.2 10
  have hbz11 := hE.2.2 11
  have hbz12 := hE.2.2 12
  have hbz13 := hE.2.2 13
  have hp0a := psg_le 20 (n 0)
  have hp1a := psg_le 20 (n 1)
  have hp0b := psj_le (L := 20) (by omega) (n 0)
  have hp1b := psj_le (L := 20) (by omega) (n 1)
  refine lv_aload_n hx hb dX0_addSign_0 rfl (lv_at hl 0 rfl) ?_
  refine va_get (D := (dC, dI)) (ci := 0) (v := .ref (o 1)) (C := RX0) (T := TX0) (N := 12) hx hb hts kt_X0 hown hK hP 0 rfl rfl 2 (by decide) (kx_word hG kq_16_xentry_4 rfl) (fun _ h9 => h9) rfl dX0_addSign_1 ?_
  refine lv_iload_n hx hb dX0_addSign_4 rfl (lv_at hl 1 rfl) ?_
  have hPc := hP.sub (ws' := (iU cI 20 (o 1) (r 0) (n 0) (z 0) (F 0))) [1, 2] rfl
  have hDc := hD.sub (ws' := (iU cI 20 (o 1) (r 0) (n 0) (z 0) (F 0))) [1, 2] (by decide) rfl
  have hFc := va_free (wc := (iU cI 20 (o 1) (r 0) (n 0) (z 0) (F 0))) hD hS hA [1, 2] rfl
  refine xk_call (va_runV (As := [.int (iz p0)]) (rest := []) ⟨hx, hb, hml, hown, hts⟩ (x_add l dC dI cI cB cE 20 (o 1) (r 0) (n 0) (z 0) (F 0) p0 s.heap.size (by omega) (hE.2.1 0) (by omega) (by omega)) (cwV 1 hts (kx_gV kq_16_xentry_5 kq_15_xspan_46 kq_15_xspan_47 kq_13_xints_6 kq_15_xspan_48 rfl) rfl rfl rfl (by decide +kernel) ⟨Nat.le_of_ble_eq_true rfl, Nat.le_of_ble_eq_true rfl⟩) ⟨kx_blind, va_recv hK hPc (ci := 1) (q0 := 0) rfl rfl, kx_give (ws := []) (tys := []) hPc hDc hK hG hZ hS hFc⟩ rfl rfl hl.1 rfl (lv_room (Nat.le_of_ble_eq_true rfl)) dX0_addSign_5 ⟨show 0 + 1 ≤ 20 from (by omega), show 0 + 1600 ≤ 4800 from (by omega)⟩) hS (fun q _ h => hFc q h) hFc (fun u dn_2 dm_3 t H locs ht hvm hq_1 hB hk1 hS => ?_)
  obtain ⟨r_4, n_5, z_6, F_7⟩ := u
  obtain ⟨hP1, hK1, hD1⟩ := hB
  rw [ht] at hP1
  obtain ⟨hP, hD⟩ := xj (wr := [(o 0, .inr (0, [.int (iz (z 7)), .int (iz (z 8)), .ref (o 1), .ref (o 2), .ref (o 3), .ref (o 5), .ref (o 4), .int (iz (z 9)), .int (iz (z 10)), .int (iz (z 11)), .int (iz (z 12)), .int (iz (z 13))])), (o 2, .inr (1, [.int (iz 20), .ref (r 1), .int (iz (z 1))])), (r 1, .inl (cI, n 1, .inl (iA (F 1)))), (o 3, .inr (1, [.int (iz 40), .ref (r 2), .int (iz (z 2))])), (r 2, .inl (cI, n 2, .inl (iA (F 2)))), (o 4, .inr (1, [.int (iz 5), .ref (r 3), .int (iz (z 3))])), (r 3, .inl (cI, n 3, .inl (iA (F 3)))), (o 5, .inr (3, [.ref (o 6), .ref (o 7), .ref (o 8)])), (o 6, .inr (1, [.int (iz 20), .ref (r 4), .int (iz (z 4))])), (r 4, .inl (cI, n 4, .inl (iA (F 4)))), (o 7, .inr (1, [.int (iz 20), .ref (r 5), .int (iz (z 5))])), (r 5, .inl (cI, n 5, .inl (iA (F 5)))), (o 8, .inr (1, [.int (iz 20), .ref (r 6), .int (iz (z 6))])), (r 6, .inl (cI, n 6, .inl (iA (F 6))))]) (w1 := (iU cI 20 (o 1) r_4 n_5 z_6 F_7)) (ws' := (eU cI o (va_up r 0 r_4) (va_up n 0 n_5) (va_up z 0 z_6) (va_up F 0 F_7))) hP hD [1, 2] [0, 3, 4, 5, 6, 7, 8, 9, 10, 11, 12, 13, 14, 15] [0, 14, 15, 1, 2, 3, 4, 5, 6, 7, 8, 9, 10, 11, 12, 13] rfl rfl (by decide) (by decide) hk1 hFc hP1 hD1 rfl (by decide)
  refine W.eq (g2 := F0 m 8 ls []) rfl ?_
  try dsimp only at hq_1
  obtain ⟨ha8, hb8, hc8, hd8⟩ := hq_1
  refine lv_aload_n hx hb dX0_addSign_8 rfl (lv_at hl 0 rfl) ?_
  refine va_get (D := (dC, dI)) (ci := 0) (v := .ref (o 2)) (C := RX0) (T := TX0) (N := 12) hx hb hts kt_X0 hown hK hP 0 rfl rfl 3 (by decide) (kx_word hG kq_16_xentry_6 rfl) (fun _ h9 => h9) rfl dX0_addSign_9 ?_
  refine lv_iload_n hx hb dX0_addSign_12 rfl (lv_at hl 1 rfl) ?_
  have hPc : va_P (dC, dI) kxCl [] H := fun k q h => by simp at h
  refine xk_pure (va_runS (As := [.int (iz p0)]) (rest := [.ref (o 2)]) ⟨hx, hb, hml, hown, hts⟩ (x_rankOf l dC dI cI cB cE p0 H.size (by omega) (by omega) (by omega)) (va_cwS 1 hts (kx_gS kq_16_xentry_7 kq_16_xentry_8 kq_16_xentry_2 kq_16_xentry_9 rfl) rfl rfl rfl (by decide +kernel) ⟨Nat.le_of_ble_eq_true rfl, Nat.le_of_ble_eq_true rfl⟩) ⟨pPre_blind, pPre_give hPc hK hG⟩ rfl rfl hl.1 rfl (lv_room (Nat.le_of_ble_eq_true rfl)) dX0_addSign_13 ⟨show (0 + dn_2) + 0 ≤ 20 from (by omega), show (0 + dm_3) + 0 ≤ 4800 from (by omega)⟩) hS (fun z_10 locs hq_9 hS => ?_)
  refine W.eq (g2 := F0 m 16 ls [.int (iz z_10), .ref (o 2)]) rfl ?_
  try dsimp only at hq_9
  have hPc := hP.sub (ws' := (iU cI 20 (o 2) (r 1) (n 1) (z 1) (F 1))) [3, 4] rfl
  have hDc := hD.sub (ws' := (iU cI 20 (o 2) (r 1) (n 1) (z 1) (F 1))) [3, 4] (by decide) rfl
  have hFc := va_free (wc := (iU cI 20 (o 2) (r 1) (n 1) (z 1) (F 1))) hD hS hA [3, 4] rfl
  refine xk_call (va_runV (As := [.int (iz z_10)]) (rest := []) ⟨hx, hb, hml, hown, hts⟩ (x_add l dC dI cI cB cE 20 (o 2) (r 1) (n 1) (z 1) (F 1) z_10 H.size (by omega) (hE.2.1 1) (by omega) (by omega)) (cwV 1 hts (kx_gV kq_16_xentry_5 kq_15_xspan_46 kq_15_xspan_47 kq_13_xints_6 kq_15_xspan_48 rfl) rfl rfl rfl (by decide +kernel) ⟨Nat.le_of_ble_eq_true rfl, Nat.le_of_ble_eq_true rfl⟩) ⟨kx_blind, va_recv hK hPc (ci := 1) (q0 := 0) rfl rfl, kx_give (ws := []) (tys := []) hPc hDc hK hG hZ hS hFc⟩ rfl rfl hl.1 rfl (lv_room (Nat.le_of_ble_eq_true rfl)) dX0_addSign_16 ⟨show (0 + dn_2) + 1 ≤ 20 from (by omega), show (0 + dm_3) + 1600 ≤ 4800 from (by omega)⟩) hS (fun q _ h => hFc q h) hFc (fun u dn_12 dm_13 t H locs ht hvm hq_11 hB hk1 hS => ?_)
  obtain ⟨r_14, n_15, z_16, F_17⟩ := u
  obtain ⟨hP1, hK1, hD1⟩ := hB
  rw [ht] at hP1
  obtain ⟨hP, hD⟩ := xj (wr := [(o 0, .inr (0, [.int (iz (z 7)), .int (iz (z 8)), .ref (o 1), .ref (o 2), .ref (o 3), .ref (o 5), .ref (o 4), .int (iz (z 9)), .int (iz (z 10)), .int (iz (z 11)), .int (iz (z 12)), .int (iz (z 13))])), (o 1, .inr (1, [.int (iz 20), .ref r_4, .int (iz z_6)])), (r_4, .inl (cI, n_5, .inl (iA F_7))), (o 3, .inr (1, [.int (iz 40), .ref (r 2), .int (iz (z 2))])), (r 2, .inl (cI, n 2, .inl (iA (F 2)))), (o 4, .inr (1, [.int (iz 5), .ref (r 3), .int (iz (z 3))])), (r 3, .inl (cI, n 3, .inl (iA (F 3)))), (o 5, .inr (3, [.ref (o 6), .ref (o 7), .ref (o 8)])), (o 6, .inr (1, [.int (iz 20), .ref (r 4), .int (iz (z 4))])), (r 4, .inl (cI, n 4, .inl (iA (F 4)))), (o 7, .inr (1, [.int (iz 20), .ref (r 5), .int (iz (z 5))])), (r 5, .inl (cI, n 5, .inl (iA (F 5)))), (o 8, .inr (1, [.int (iz 20), .ref (r 6), .int (iz (z 6))])), (r 6, .inl (cI, n 6, .inl (iA (F 6))))]) (w1 := (iU cI 20 (o 2) r_14 n_15 z_16 F_17)) (ws' := (eU cI o (va_up (va_up r 0 r_4) 1 r_14) (va_up (va_up n 0 n_5) 1 n_15) (va_up (va_up z 0 z_6) 1 z_16) (va_up (va_up F 0 F_7) 1 F_17))) hP hD [3, 4] [0, 1, 2, 5, 6, 7, 8, 9, 10, 11, 12, 13, 14, 15] [0, 1, 2, 14, 15, 3, 4, 5, 6, 7, 8, 9, 10, 11, 12, 13] rfl rfl (by decide) (by decide) hk1 hFc hP1 hD1 rfl (by decide)
  refine W.eq (g2 := F0 m 19 ls []) rfl ?_
  try dsimp only at hq_11
  obtain ⟨ha18, hb18, hc18, hd18⟩ := hq_11
  exact xk_vret (ov := (fun _ : Nat × Nat × Int × (Int → Int) × Nat × Nat × Int × (Int → Int) => none)) (post := (fun (u : Nat × Nat × Int × (Int → Int) × Nat × Nat × Int × (Int → Int)) (dn dm : Nat) => match u with | (r0', n0', z0', F0', r1', n1', z1', F1') => ((0 ≤ z0' ∧ z0' ≤ (n0' : Int) ∧ (n0' : Int) ≤ 20) ∧ iB F0') ∧ ((0 ≤ z1' ∧ z1' ≤ (n1' : Int) ∧ (n1' : Int) ≤ 20) ∧ iB F1') ∧ (dn ≤ 18 ∧ dm ≤ 120) ∧ iAdd 20 (z 0) (F 0) z0' F0' p0)) (ws := (fun u : Nat × Nat × Int × (Int → Int) × Nat × Nat × Int × (Int → Int) => match u with | (r0', n0', z0', F0', r1', n1', z1', F1') => (eU cI o (va_up (va_up r 0 r0') 1 r1') (va_up (va_up n 0 n0') 1 n1') (va_up (va_up z 0 z0') 1 z1') (va_up (va_up F 0 F0') 1 F1')))) (tys := xT cI cB cE) (r_4, n_5, z_6, F_7, r_14, n_15, z_16, F_17) hx hb hr hlocks rfl hP hD hK hS dX0_addSign_19 (fun dn dm hdn hdm => ⟨⟨by omega, hb8⟩, ⟨by omega, hb18⟩, by omega, hd8⟩) (by omega) (by omega)
set_option maxHeartbeats 4000000 in
set_option maxRecDepth 100000 in
theorem x_beginRange (l : Launch) (dC : Nat → ClassId) (dI : Nat → Nat → Nat) (cI cB cE : ClassId) (o : Nat → Nat) (r : Nat → Nat) (n : Nat → Nat) (z : Nat → Int) (F : Nat → Int → Int) (p0 : Int) (sz : Nat) (hE : eOk n z F) (hp01 : -2147483648 ≤ p0) (hp02 : p0 < 2147483648) : Met l yX0_beginRange [.code yX0_beginRange cX0_beginRange 2 (some .boolean)] ({ frames := 4, cells := 30, slots := 9600, locals := 126 }) (va_Pc [.ref (o 0), .int (iz p0)] (kx_Pre dC dI (eU cI o r n z F) (xT cI cB cE) sz)) (xQ (fun u : Int × Int × Nat × Nat × Int × (Int → Int) × Nat × Nat × Int × (Int → Int) × Nat × Nat × Int × (Int → Int) => match u with | (q, z9', r4', n4', z4', F4', r5', n5', z5', F5', r6', n6', z6', F6') => some (.int (iz q))) (fun (u : Int × Int × Nat × Nat × Int × (Int → Int) × Nat × Nat × Int × (Int → Int) × Nat × Nat × Int × (Int → Int)) (dn dm : Nat) => match u with | (q, z9', r4', n4', z4', F4', r5', n5', z5', F5', r6', n6', z6', F6') => ((0 ≤ z4' ∧ z4' ≤ (n4' : Int) ∧ (n4' : Int) ≤ 20) ∧ iB F4') ∧ ((0 ≤ z5' ∧ z5' ≤ (n5' : Int) ∧ (n5' : Int) ≤ 20) ∧ iB F5') ∧ ((0 ≤ z6' ∧ z6' ≤ (n6' : Int) ∧ (n6' : Int) ≤ 20) ∧ iB F6') ∧ (dn ≤ 27 ∧ dm ≤ 180) ∧ ((q = 0 ∧ 0 ≤ z 9 ∧ z9' = z 9 ∧ z4' = z 4 ∧ F4' = F 4) ∨ (q = 1 ∧ z 9 < 0 ∧ z9' = z 4 ∧ iAdd 20 (z 4) (F 4) z4' F4' p0))) (fun u t => kx_At dC dI (va_A (eU cI o r n z F) sz) ((fun u : Int × Int × Nat × Nat × Int × (Int → Int) × Nat × Nat × Int × (Int → Int) × Nat × Nat × Int × (Int → Int) => match u with | (q, z9', r4', n4', z4', F4', r5', n5', z5', F5', r6', n6', z6', F6') => (eU cI o (va_up (va_up (va_up r 4 r4') 5 r5') 6 r6') (va_up (va_up (va_up n 4 n4') 5 n5') 6 n6') (va_up (va_up (va_up (va_up z 4 z4') 5 z5') 6 z6') 9 z9') (va_up (va_up (va_up F 4 F4') 5 F5') 6 F6'))) u) (xT cI cB cE) t) (va_A (eU cI o r n z F) sz)) 30 9600 (va_A (eU cI o r n z F) sz) := by
  refine Met.ofW (cc := cX0_beginRange) (maxL := 2) (ret := (some .boolean)) (by decide) rfl ?_
  intro p e s m args below meth c s₁ B hml hv
  obtain ⟨rfl, hsz, hP, hK, hD0, hG, hZ⟩ := hv
  have hx := B.exec
  have hb := B.bytes
  have hr := B.returns
  have hts := kx_hts (a := ([.ref (o 0), .int (iz p0)] : List Value).toArray) hG
  have hown : s.vm.findClass RX0 = some m.cls := findClass_of_methodNamed B.named
  have hlocks := B.notSynchronized
  subst hsz
  have hD := hD0.self (sz := s.heap.size)
  generalize hAe : va_A (eU cI o r n z F) s.heap.size = A at hD hZ ⊢
  have hA : ∀ q : Nat, s.heap.size ≤ q → A q := fun q h => by rw [← hAe]; exact Or.inr h
  have hS : va_S A s.heap s.heap [] := va_S.rf
  have hl := lv_entry ([.ref (o 0), .int (iz p0)]) (n := 2) (Nat.le_of_ble_eq_true rfl)
  rw [lg_entry_eq]
  generalize (lg_sl ([.ref (o 0), .int (iz p0)]) ++ List.replicate (2 - (lg_sl ([.ref (o 0), .int (iz p0)])).length) Slot.unset).toArray = ls at hl ⊢
  have hl : lv_has ls 2 [(0, .ref (o 0)), (1, .int (iz p0))] := hl
  have he0 : 0 ≤ z 0 ∧ z 0 ≤ (n 0 : Int) ∧ (n 0 : Int) ≤ 20 := hE.1 0 (by decide)
  have he1 : 0 ≤ z 1 ∧ z 1 ≤ (n 1 : Int) ∧ (n 1 : Int) ≤ 20 := hE.1 1 (by decide)
  have he2 : 0 ≤ z 2 ∧ z 2 ≤ (n 2 : Int) ∧ (n 2 : Int) ≤ 40 := hE.1 2 (by decide)
  have he3 : 0 ≤ z 3 ∧ z 3 ≤ (n 3 : Int) ∧ (n 3 : Int) ≤ 5 := hE.1 3 (by decide)
  have he4 : 0 ≤ z 4 ∧ z 4 ≤ (n 4 : Int) ∧ (n 4 : Int) ≤ 20 := hE.1 4 (by decide)
  have he5 : 0 ≤ z 5 ∧ z 5 ≤ (n 5 : Int) ∧ (n 5 : Int) ≤ 20 := hE.1 5 (by decide)
  have he6 : 0 ≤ z 6 ∧ z 6 ≤ (n 6 : Int) ∧ (n 6 : Int) ≤ 20 := hE.1 6 (by decide)
  have hbz7 := hE.2.2 7
  have hbz8 := hE.2.2 8
  have hbz9 := hE.2.2 9
  have hbz10 := hE.2.2 10
  have hbz11 := hE.2.2 11
  have hbz12 := hE.2.2 12
  have hbz13 := hE.2.2 13
  have hp4a := psg_le 20 (n 4)
  have hp5a := psg_le 20 (n 5)
  have hp6a := psg_le 20 (n 6)
  have hp4b := psj_le (L := 20) (by omega) (n 4)
  have hp5b := psj_le (L := 20) (by omega) (n 5)
  have hp6b := psj_le (L := 20) (by omega) (n 6)
  refine lv_aload_n hx hb dX0_beginRange_0 rfl (lv_at hl 0 rfl) ?_
  refine va_get (D := (dC, dI)) (ci := 0) (v := .int (iz (z 9))) (C := RX0) (T := TX0) (N := 12) hx hb hts kt_X0 hown hK hP 0 rfl rfl 7 (by decide) (kx_word hG kq_16_xentry_10 rfl) (fun _ h9 => h9) rfl dX0_beginRange_1 ?_
  refine ki_if_lt (tgt := 9) hx hb dX0_beginRange_4 (by decide) (by omega) (by omega) (fun c_1 => ?_) (fun c_1 => ?_)
  · skip
    refine lv_aload_n hx hb dX0_beginRange_9 rfl (lv_at hl 0 rfl) ?_
    refine lv_aload_n hx hb dX0_beginRange_10 rfl (lv_at hl 0 rfl) ?_
    refine va_get (D := (dC, dI)) (ci := 0) (v := .ref (o 5)) (C := RX0) (T := TX0) (N := 12) hx hb hts kt_X0 hown hK hP 0 rfl rfl 5 (by decide) (kx_word hG kq_16_xentry_11 rfl) (fun _ h9 => h9) rfl dX0_beginRange_11 ?_
    have hPc := hP.sub (ws' := (sU cI 20 (o 5) (o 6) (o 7) (o 8) (r 4) (r 5) (r 6) (n 4) (n 5) (n 6) (z 4) (z 5) (z 6) (F 4) (F 5) (F 6))) [9, 10, 11, 12, 13, 14, 15] rfl
    refine xk_pure (va_runV (As := []) (rest := [.ref (o 0)]) ⟨hx, hb, hml, hown, hts⟩ (x_ssize l dC dI cI cB cE 20 (o 5) (o 6) (o 7) (o 8) (r 4) (r 5) (r 6) (n 4) (n 5) (n 6) (z 4) (z 5) (z 6) (F 4) (F 5) (F 6)  s.heap.size ) (cwV 0 hts (kx_gV kq_16_xentry_12 kq_15_xspan_51 kq_15_xspan_52 kq_15_xspan_53 kq_15_xspan_54 rfl) rfl rfl rfl (by decide +kernel) ⟨Nat.le_of_ble_eq_true rfl, Nat.le_of_ble_eq_true rfl⟩) ⟨pPre_blind, va_recv hK hPc (ci := 3) (q0 := 0) rfl rfl, pPre_give hPc hK hG⟩ rfl rfl hl.1 rfl (lv_room (Nat.le_of_ble_eq_true rfl)) dX0_beginRange_14 ⟨show 0 + 0 ≤ 30 from (by omega), show 0 + 0 ≤ 9600 from (by omega)⟩) hS (fun z_3 locs hq_2 hS => ?_)
    refine W.eq (g2 := F0 m 17 ls [.int (iz z_3), .ref (o 0)]) rfl ?_
    try dsimp only at hq_2
    have hq_2 := hq_2.symm
    subst hq_2
    refine va_put (D := (dC, dI)) (ci := 0) (v := .int (iz (z 4))) (ty := .int) (C := RX0) (T := TX0) (N := 12) hx hb hts kt_X0 tyX0 tyX0_ok nmX0 hown hK hP hD hS 0 rfl rfl 7 (by decide) (kx_word hG kq_16_xentry_10 rfl) (fun _ h9 => h9) rfl (by decide +kernel) rfl rfl (Nat.le_of_ble_eq_true rfl) dX0_beginRange_17 (fun H locs hP hD hS => ?_)
    have hP : va_P (dC, dI) kxCl (eU cI o r n (va_up z 9 (z 4)) F) H := hP
    have hD : va_D A (eU cI o r n (va_up z 9 (z 4)) F) := hD
    refine lv_aload_n hx hb dX0_beginRange_20 rfl (lv_at hl 0 rfl) ?_
    refine va_get (D := (dC, dI)) (ci := 0) (v := .ref (o 5)) (C := RX0) (T := TX0) (N := 12) hx hb hts kt_X0 hown hK hP 0 rfl rfl 5 (by decide) (kx_word hG kq_16_xentry_11 rfl) (fun _ h9 => h9) rfl dX0_beginRange_21 ?_
    refine lv_iload_n hx hb dX0_beginRange_24 rfl (lv_at hl 1 rfl) ?_
    refine lv_iload_n hx hb dX0_beginRange_25 rfl (lv_at hl 1 rfl) ?_
    refine lv_iconst (v := iz 0) hx hb dX0_beginRange_26 (by decide) ?_
    have hPc := hP.sub (ws' := (sU cI 20 (o 5) (o 6) (o 7) (o 8) (r 4) (r 5) (r 6) (n 4) (n 5) (n 6) (z 4) (z 5) (z 6) (F 4) (F 5) (F 6))) [9, 10, 11, 12, 13, 14, 15] rfl
    have hDc := hD.sub (ws' := (sU cI 20 (o 5) (o 6) (o 7) (o 8) (r 4) (r 5) (r 6) (n 4) (n 5) (n 6) (z 4) (z 5) (z 6) (F 4) (F 5) (F 6))) [9, 10, 11, 12, 13, 14, 15] (by decide) rfl
    have hFc := va_free (wc := (sU cI 20 (o 5) (o 6) (o 7) (o 8) (r 4) (r 5) (r 6) (n 4) (n 5) (n 6) (z 4) (z 5) (z 6) (F 4) (F 5) (F 6))) hD hS hA [9, 10, 11, 12, 13, 14, 15] rfl
    refine xk_call (va_runV (As := [.int (iz p0), .int (iz p0), .int (iz 0)]) (rest := []) ⟨hx, hb, hml, hown, hts⟩ (x_sadd l dC dI cI cB cE 20 (o 5) (o 6) (o 7) (o 8) (r 4) (r 5) (r 6) (n 4) (n 5) (n 6) (z 4) (z 5) (z 6) (F 4) (F 5) (F 6) p0 p0 0 H.size (by omega) (hE.2.1 4) (by omega) (hE.2.1 5) (by omega) (hE.2.1 6) (by omega) (by omega) (by omega) (by omega) (by omega)) (cwV 3 hts (kx_gV kq_16_xentry_13 kq_15_xspan_72 kq_15_xspan_73 kq_15_xspan_53 kq_15_xspan_74 rfl) rfl rfl rfl (by decide +kernel) ⟨Nat.le_of_ble_eq_true rfl, Nat.le_of_ble_eq_true rfl⟩) ⟨kx_blind, va_recv hK hPc (ci := 3) (q0 := 0) rfl rfl, kx_give (ws := []) (tys := []) hPc hDc hK hG hZ hS hFc⟩ rfl rfl hl.1 rfl (lv_room (Nat.le_of_ble_eq_true rfl)) dX0_beginRange_27 ⟨show 0 + 3 ≤ 30 from (by omega), show 0 + 4800 ≤ 9600 from (by omega)⟩) hS (fun q _ h => hFc q h) hFc (fun u dn_5 dm_6 t H locs ht hvm hq_4 hB hk1 hS => ?_)
    obtain ⟨r1_7, n1_8, z1_9, F1_10, r2_11, n2_12, z2_13, F2_14, r3_15, n3_16, z3_17, F3_18⟩ := u
    obtain ⟨hP1, hK1, hD1⟩ := hB
    rw [ht] at hP1
    obtain ⟨hP, hD⟩ := xj (wr := [(o 0, .inr (0, [.int (iz (z 7)), .int (iz (z 8)), .ref (o 1), .ref (o 2), .ref (o 3), .ref (o 5), .ref (o 4), .int (iz (z 4)), .int (iz (z 10)), .int (iz (z 11)), .int (iz (z 12)), .int (iz (z 13))])), (o 1, .inr (1, [.int (iz 20), .ref (r 0), .int (iz (z 0))])), (r 0, .inl (cI, n 0, .inl (iA (F 0)))), (o 2, .inr (1, [.int (iz 20), .ref (r 1), .int (iz (z 1))])), (r 1, .inl (cI, n 1, .inl (iA (F 1)))), (o 3, .inr (1, [.int (iz 40), .ref (r 2), .int (iz (z 2))])), (r 2, .inl (cI, n 2, .inl (iA (F 2)))), (o 4, .inr (1, [.int (iz 5), .ref (r 3), .int (iz (z 3))])), (r 3, .inl (cI, n 3, .inl (iA (F 3))))]) (w1 := (sU cI 20 (o 5) (o 6) (o 7) (o 8) r1_7 r2_11 r3_15 n1_8 n2_12 n3_16 z1_9 z2_13 z3_17 F1_10 F2_14 F3_18)) (ws' := (eU cI o (va_up (va_up (va_up r 4 r1_7) 5 r2_11) 6 r3_15) (va_up (va_up (va_up n 4 n1_8) 5 n2_12) 6 n3_16) (va_up (va_up (va_up (va_up z 4 z1_9) 5 z2_13) 6 z3_17) 9 (z 4)) (va_up (va_up (va_up F 4 F1_10) 5 F2_14) 6 F3_18))) hP hD [9, 10, 11, 12, 13, 14, 15] [0, 1, 2, 3, 4, 5, 6, 7, 8] [0, 1, 2, 3, 4, 5, 6, 7, 8, 9, 10, 11, 12, 13, 14, 15] rfl rfl (by decide) (by decide) hk1 hFc hP1 hD1 rfl (by decide)
    refine W.eq (g2 := F0 m 30 ls []) rfl ?_
    try dsimp only at hq_4
    obtain ⟨ha1, hb1, ha2, hb2, ha3, hb3, hc, hd1, hd2, hd3⟩ := hq_4
    refine lv_iconst (v := iz 1) hx hb dX0_beginRange_30 (by decide) ?_
    exact xk_iret (ov := (fun u : Int × Int × Nat × Nat × Int × (Int → Int) × Nat × Nat × Int × (Int → Int) × Nat × Nat × Int × (Int → Int) => match u with | (q, z9', r4', n4', z4', F4', r5', n5', z5', F5', r6', n6', z6', F6') => some (.int (iz q)))) (post := (fun (u : Int × Int × Nat × Nat × Int × (Int → Int) × Nat × Nat × Int × (Int → Int) × Nat × Nat × Int × (Int → Int)) (dn dm : Nat) => match u with | (q, z9', r4', n4', z4', F4', r5', n5', z5', F5', r6', n6', z6', F6') => ((0 ≤ z4' ∧ z4' ≤ (n4' : Int) ∧ (n4' : Int) ≤ 20) ∧ iB F4') ∧ ((0 ≤ z5' ∧ z5' ≤ (n5' : Int) ∧ (n5' : Int) ≤ 20) ∧ iB F5') ∧ ((0 ≤ z6' ∧ z6' ≤ (n6' : Int) ∧ (n6' : Int) ≤ 20) ∧ iB F6') ∧ (dn ≤ 27 ∧ dm ≤ 180) ∧ ((q = 0 ∧ 0 ≤ z 9 ∧ z9' = z 9 ∧ z4' = z 4 ∧ F4' = F 4) ∨ (q = 1 ∧ z 9 < 0 ∧ z9' = z 4 ∧ iAdd 20 (z 4) (F 4) z4' F4' p0)))) (ws := (fun u : Int × Int × Nat × Nat × Int × (Int → Int) × Nat × Nat × Int × (Int → Int) × Nat × Nat × Int × (Int → Int) => match u with | (q, z9', r4', n4', z4', F4', r5', n5', z5', F5', r6', n6', z6', F6') => (eU cI o (va_up (va_up (va_up r 4 r4') 5 r5') 6 r6') (va_up (va_up (va_up n 4 n4') 5 n5') 6 n6') (va_up (va_up (va_up (va_up z 4 z4') 5 z5') 6 z6') 9 z9') (va_up (va_up (va_up F 4 F4') 5 F5') 6 F6')))) (tys := xT cI cB cE) (z := 1) (1, z 4, r1_7, n1_8, z1_9, F1_10, r2_11, n2_12, z2_13, F2_14, r3_15, n3_16, z3_17, F3_18) hx hb hr (mz_bool (by omega)).1 hlocks rfl hP hD hK hS dX0_beginRange_31 (fun dn dm hdn hdm => ⟨⟨by omega, hb1⟩, ⟨by omega, hb2⟩, ⟨by omega, hb3⟩, by omega, Or.inr ⟨rfl, by omega, rfl, hd1⟩⟩) (by omega) (by omega)
  · skip
    refine lv_iconst (v := iz 0) hx hb dX0_beginRange_7 (by decide) ?_
    exact xk_iret (ov := (fun u : Int × Int × Nat × Nat × Int × (Int → Int) × Nat × Nat × Int × (Int → Int) × Nat × Nat × Int × (Int → Int) => match u with | (q, z9', r4', n4', z4', F4', r5', n5', z5', F5', r6', n6', z6', F6') => some (.int (iz q)))) (post := (fun (u : Int × Int × Nat × Nat × Int × (Int → Int) × Nat × Nat × Int × (Int → Int) × Nat × Nat × Int × (Int → Int)) (dn dm : Nat) => match u with | (q, z9', r4', n4', z4', F4', r5', n5', z5', F5', r6', n6', z6', F6') => ((0 ≤ z4' ∧ z4' ≤ (n4' : Int) ∧ (n4' : Int) ≤ 20) ∧ iB F4') ∧ ((0 ≤ z5' ∧ z5' ≤ (n5' : Int) ∧ (n5' : Int) ≤ 20) ∧ iB F5') ∧ ((0 ≤ z6' ∧ z6' ≤ (n6' : Int) ∧ (n6' : Int) ≤ 20) ∧ iB F6') ∧ (dn ≤ 27 ∧ dm ≤ 180) ∧ ((q = 0 ∧ 0 ≤ z 9 ∧ z9' = z 9 ∧ z4' = z 4 ∧ F4' = F 4) ∨ (q = 1 ∧ z 9 < 0 ∧ z9' = z 4 ∧ iAdd 20 (z 4) (F 4) z4' F4' p0)))) (ws := (fun u : Int × Int × Nat × Nat × Int × (Int → Int) × Nat × Nat × Int × (Int → Int) × Nat × Nat × Int × (Int → Int) => match u with | (q, z9', r4', n4', z4', F4', r5', n5', z5', F5', r6', n6', z6', F6') => (eU cI o (va_up (va_up (va_up r 4 r4') 5 r5') 6 r6') (va_up (va_up (va_up n 4 n4') 5 n5') 6 n6') (va_up (va_up (va_up (va_up z 4 z4') 5 z5') 6 z6') 9 z9') (va_up (va_up (va_up F 4 F4') 5 F5') 6 F6')))) (tys := xT cI cB cE) (z := 0) (0, z 9, r 4, n 4, z 4, F 4, r 5, n 5, z 5, F 5, r 6, n 6, z 6, F 6) hx hb hr (mz_bool (by omega)).1 hlocks rfl hP hD hK hS dX0_beginRange_8 (fun dn dm hdn hdm => ⟨⟨by omega, hE.2.1 4⟩, ⟨by omega, hE.2.1 5⟩, ⟨by omega, hE.2.1 6⟩, by omega, Or.inl ⟨rfl, by omega, rfl, rfl, rfl⟩⟩) (by omega) (by omega)
set_option maxHeartbeats 4000000 in
set_option maxRecDepth 100000 in
theorem x_endRange (l : Launch) (dC : Nat → ClassId) (dI : Nat → Nat → Nat) (cI cB cE : ClassId) (o : Nat → Nat) (r : Nat → Nat) (n : Nat → Nat) (z : Nat → Int) (F : Nat → Int → Int) (p0 : Int) (sz : Nat) (hE : eOk n z F) (hp01 : -2147483648 ≤ p0) (hp02 : p0 < 2147483648) : Met l yX0_endRange [.code yX0_endRange cX0_endRange 2 (some .boolean)] ({ frames := 2, cells := 0, slots := 0, locals := 44 }) (va_Pc [.ref (o 0), .int (iz p0)] (kx_Pre dC dI (eU cI o r n z F) (xT cI cB cE) sz)) (xQ (fun u : Int × Int × (Int → Int) × (Int → Int) => match u with | (q, z9', F5', F6') => some (.int (iz q))) (fun (u : Int × Int × (Int → Int) × (Int → Int)) (dn dm : Nat) => match u with | (q, z9', F5', F6') => dn = 0 ∧ dm = 0 ∧ iB F5' ∧ iB F6' ∧ (-2147483648 ≤ z9' ∧ z9' < 2147483648) ∧ ((q = 0 ∧ z9' = z 9 ∧ (0 ≤ z 9 → z 9 < z 4 → p0 < F 4 (z 9))) ∨ (q = 1 ∧ 0 ≤ z 9 ∧ (z 9 < z 4 → F 4 (z 9) ≤ p0) ∧ z9' = -1))) (fun u t => kx_At dC dI (va_A (eU cI o r n z F) sz) ((fun u : Int × Int × (Int → Int) × (Int → Int) => match u with | (q, z9', F5', F6') => (eU cI o r n (va_up z 9 z9') (va_up (va_up F 5 F5') 6 F6'))) u) (xT cI cB cE) t) (va_A (eU cI o r n z F) sz)) 0 0 (va_A (eU cI o r n z F) sz) := by
  refine Met.ofW (cc := cX0_endRange) (maxL := 2) (ret := (some .boolean)) (by decide) rfl ?_
  intro p e s m args below meth c s₁ B hml hv
  obtain ⟨rfl, hsz, hP, hK, hD0, hG, hZ⟩ := hv
  have hx := B.exec
  have hb := B.bytes
  have hr := B.returns
  have hts := kx_hts (a := ([.ref (o 0), .int (iz p0)] : List Value).toArray) hG
  have hown : s.vm.findClass RX0 = some m.cls := findClass_of_methodNamed B.named
  have hlocks := B.notSynchronized
  subst hsz
  have hD := hD0.self (sz := s.heap.size)
  generalize hAe : va_A (eU cI o r n z F) s.heap.size = A at hD hZ ⊢
  have hA : ∀ q : Nat, s.heap.size ≤ q → A q := fun q h => by rw [← hAe]; exact Or.inr h
  have hS : va_S A s.heap s.heap [] := va_S.rf
  have hl := lv_entry ([.ref (o 0), .int (iz p0)]) (n := 2) (Nat.le_of_ble_eq_true rfl)
  rw [lg_entry_eq]
  generalize (lg_sl ([.ref (o 0), .int (iz p0)]) ++ List.replicate (2 - (lg_sl ([.ref (o 0), .int (iz p0)])).length) Slot.unset).toArray = ls at hl ⊢
  have hl : lv_has ls 2 [(0, .ref (o 0)), (1, .int (iz p0))] := hl
  have he0 : 0 ≤ z 0 ∧ z 0 ≤ (n 0 : Int) ∧ (n 0 : Int) ≤ 20 := hE.1 0 (by decide)
  have he1 : 0 ≤ z 1 ∧ z 1 ≤ (n 1 : Int) ∧ (n 1 : Int) ≤ 20 := hE.1 1 (by decide)
  have he2 : 0 ≤ z 2 ∧ z 2 ≤ (n 2 : Int) ∧ (n 2 : Int) ≤ 40 := hE.1 2 (by decide)
  have he3 : 0 ≤ z 3 ∧ z 3 ≤ (n 3 : Int) ∧ (n 3 : Int) ≤ 5 := hE.1 3 (by decide)
  have he4 : 0 ≤ z 4 ∧ z 4 ≤ (n 4 : Int) ∧ (n 4 : Int) ≤ 20 := hE.1 4 (by decide)
  have he5 : 0 ≤ z 5 ∧ z 5 ≤ (n 5 : Int) ∧ (n 5 : Int) ≤ 20 := hE.1 5 (by decide)
  have he6 : 0 ≤ z 6 ∧ z 6 ≤ (n 6 : Int) ∧ (n 6 : Int) ≤ 20 := hE.1 6 (by decide)
  have hbz7 := hE.2.2 7
  have hbz8 := hE.2.2 8
  have hbz9 := hE.2.2 9
  have hbz10 := hE.2.2 10
  have hbz11 := hE.2.2 11
  have hbz12 := hE.2.2 12
  have hbz13 := hE.2.2 13
  refine lv_aload_n hx hb dX0_endRange_0 rfl (lv_at hl 0 rfl) ?_
  refine va_get (D := (dC, dI)) (ci := 0) (v := .int (iz (z 9))) (C := RX0) (T := TX0) (N := 12) hx hb hts kt_X0 hown hK hP 0 rfl rfl 7 (by decide) (kx_word hG kq_16_xentry_10 rfl) (fun _ h9 => h9) rfl dX0_endRange_1 ?_
  refine ki_if_lt (tgt := 22) hx hb dX0_endRange_4 (by decide) (by omega) (by omega) (fun c_1 => ?_) (fun c_1 => ?_)
  · skip
    refine lv_iconst (v := iz 0) hx hb dX0_endRange_22 (by decide) ?_
    exact xk_iret (ov := (fun u : Int × Int × (Int → Int) × (Int → Int) => match u with | (q, z9', F5', F6') => some (.int (iz q)))) (post := (fun (u : Int × Int × (Int → Int) × (Int → Int)) (dn dm : Nat) => match u with | (q, z9', F5', F6') => dn = 0 ∧ dm = 0 ∧ iB F5' ∧ iB F6' ∧ (-2147483648 ≤ z9' ∧ z9' < 2147483648) ∧ ((q = 0 ∧ z9' = z 9 ∧ (0 ≤ z 9 → z 9 < z 4 → p0 < F 4 (z 9))) ∨ (q = 1 ∧ 0 ≤ z 9 ∧ (z 9 < z 4 → F 4 (z 9) ≤ p0) ∧ z9' = -1)))) (ws := (fun u : Int × Int × (Int → Int) × (Int → Int) => match u with | (q, z9', F5', F6') => (eU cI o r n (va_up z 9 z9') (va_up (va_up F 5 F5') 6 F6')))) (tys := xT cI cB cE) (z := 0) (0, z 9, F 5, F 6) hx hb hr (mz_bool (by omega)).1 hlocks rfl hP hD hK hS dX0_endRange_23 (fun dn dm hdn hdm => ⟨by omega, by omega, hE.2.1 5, hE.2.1 6, by omega, Or.inl ⟨rfl, rfl, fun h8 h9 => by omega⟩⟩) (by omega) (by omega)
  · skip
    refine lv_iload_n hx hb dX0_endRange_7 rfl (lv_at hl 1 rfl) ?_
    refine lv_aload_n hx hb dX0_endRange_8 rfl (lv_at hl 0 rfl) ?_
    refine va_get (D := (dC, dI)) (ci := 0) (v := .ref (o 5)) (C := RX0) (T := TX0) (N := 12) hx hb hts kt_X0 hown hK hP 0 rfl rfl 5 (by decide) (kx_word hG kq_16_xentry_11 rfl) (fun _ h9 => h9) rfl dX0_endRange_9 ?_
    refine lv_aload_n hx hb dX0_endRange_12 rfl (lv_at hl 0 rfl) ?_
    refine va_get (D := (dC, dI)) (ci := 0) (v := .int (iz (z 9))) (C := RX0) (T := TX0) (N := 12) hx hb hts kt_X0 hown hK hP 0 rfl rfl 7 (by decide) (kx_word hG kq_16_xentry_10 rfl) (fun _ h9 => h9) rfl dX0_endRange_13 ?_
    have hPc := hP.sub (ws' := (sU cI 20 (o 5) (o 6) (o 7) (o 8) (r 4) (r 5) (r 6) (n 4) (n 5) (n 6) (z 4) (z 5) (z 6) (F 4) (F 5) (F 6))) [9, 10, 11, 12, 13, 14, 15] rfl
    refine xk_pure (va_runV (As := [.int (iz (z 9))]) (rest := [.int (iz p0)]) ⟨hx, hb, hml, hown, hts⟩ (x_sfrom l dC dI cI cB cE 20 (o 5) (o 6) (o 7) (o 8) (r 4) (r 5) (r 6) (n 4) (n 5) (n 6) (z 4) (z 5) (z 6) (F 4) (F 5) (F 6) (z 9) s.heap.size (by omega) (hE.2.1 4) (by omega) (hE.2.1 5) (by omega) (hE.2.1 6) (by omega) (by omega)) (cwV 1 hts (kx_gV kq_16_xentry_14 kq_15_xspan_56 kq_15_xspan_57 kq_15_xspan_53 kq_15_xspan_58 rfl) rfl rfl rfl (by decide +kernel) ⟨Nat.le_of_ble_eq_true rfl, Nat.le_of_ble_eq_true rfl⟩) ⟨pPre_blind, va_recv hK hPc (ci := 3) (q0 := 0) rfl rfl, pPre_give hPc hK hG⟩ rfl rfl hl.1 rfl (lv_room (Nat.le_of_ble_eq_true rfl)) dX0_endRange_16 ⟨show 0 + 0 ≤ 0 from (by omega), show 0 + 0 ≤ 0 from (by omega)⟩) hS (fun z_3 locs hq_2 hS => ?_)
    refine W.eq (g2 := F0 m 19 ls [.int (iz z_3), .int (iz p0)]) rfl ?_
    try dsimp only at hq_2
    refine ki_icmp_ge (tgt := 24) hx hb dX0_endRange_19 (by decide) (by omega) (by omega) (by omega) (by omega) (fun c_4 => ?_) (fun c_4 => ?_)
    · skip
      refine lv_aload_n hx hb dX0_endRange_24 rfl (lv_at hl 0 rfl) ?_
      refine va_get (D := (dC, dI)) (ci := 0) (v := .ref (o 5)) (C := RX0) (T := TX0) (N := 12) hx hb hts kt_X0 hown hK hP 0 rfl rfl 5 (by decide) (kx_word hG kq_16_xentry_11 rfl) (fun _ h9 => h9) rfl dX0_endRange_25 ?_
      refine lv_aload_n hx hb dX0_endRange_28 rfl (lv_at hl 0 rfl) ?_
      refine va_get (D := (dC, dI)) (ci := 0) (v := .int (iz (z 9))) (C := RX0) (T := TX0) (N := 12) hx hb hts kt_X0 hown hK hP 0 rfl rfl 7 (by decide) (kx_word hG kq_16_xentry_10 rfl) (fun _ h9 => h9) rfl dX0_endRange_29 ?_
      refine lv_iload_n hx hb dX0_endRange_32 rfl (lv_at hl 1 rfl) ?_
      have hPc := hP.sub (ws' := (sU cI 20 (o 5) (o 6) (o 7) (o 8) (r 4) (r 5) (r 6) (n 4) (n 5) (n 6) (z 4) (z 5) (z 6) (F 4) (F 5) (F 6))) [9, 10, 11, 12, 13, 14, 15] rfl
      have hDc := hD.sub (ws' := (sU cI 20 (o 5) (o 6) (o 7) (o 8) (r 4) (r 5) (r 6) (n 4) (n 5) (n 6) (z 4) (z 5) (z 6) (F 4) (F 5) (F 6))) [9, 10, 11, 12, 13, 14, 15] (by decide) rfl
      have hFc := va_free (wc := (sU cI 20 (o 5) (o 6) (o 7) (o 8) (r 4) (r 5) (r 6) (n 4) (n 5) (n 6) (z 4) (z 5) (z 6) (F 4) (F 5) (F 6))) hD hS hA [9, 10, 11, 12, 13, 14, 15] rfl
      refine xk_call (va_runV (As := [.int (iz (z 9)), .int (iz p0)]) (rest := []) ⟨hx, hb, hml, hown, hts⟩ (x_sendAt l dC dI cI cB cE 20 (o 5) (o 6) (o 7) (o 8) (r 4) (r 5) (r 6) (n 4) (n 5) (n 6) (z 4) (z 5) (z 6) (F 4) (F 5) (F 6) (z 9) p0 s.heap.size (by omega) (hE.2.1 4) (by omega) (hE.2.1 5) (by omega) (hE.2.1 6) (by omega) (by omega) (by omega) (by omega)) (cwV 2 hts (kx_gV kq_16_xentry_15 kq_16_xentry_16 kq_16_xentry_17 kq_15_xspan_53 kq_16_xentry_18 rfl) rfl rfl rfl (by decide +kernel) ⟨Nat.le_of_ble_eq_true rfl, Nat.le_of_ble_eq_true rfl⟩) ⟨kx_blind, va_recv hK hPc (ci := 3) (q0 := 0) rfl rfl, kx_give (ws := []) (tys := []) hPc hDc hK hG hZ hS hFc⟩ rfl rfl hl.1 rfl (lv_room (Nat.le_of_ble_eq_true rfl)) dX0_endRange_33 ⟨show 0 + 0 ≤ 0 from (by omega), show 0 + 0 ≤ 0 from (by omega)⟩) hS (fun q _ h => hFc q h) hFc (fun u dn_6 dm_7 t H locs ht hvm hq_5 hB hk1 hS => ?_)
      obtain ⟨F2_8, F3_9⟩ := u
      obtain ⟨hP1, hK1, hD1⟩ := hB
      rw [ht] at hP1
      obtain ⟨hP, hD⟩ := xj (wr := [(o 0, .inr (0, [.int (iz (z 7)), .int (iz (z 8)), .ref (o 1), .ref (o 2), .ref (o 3), .ref (o 5), .ref (o 4), .int (iz (z 9)), .int (iz (z 10)), .int (iz (z 11)), .int (iz (z 12)), .int (iz (z 13))])), (o 1, .inr (1, [.int (iz 20), .ref (r 0), .int (iz (z 0))])), (r 0, .inl (cI, n 0, .inl (iA (F 0)))), (o 2, .inr (1, [.int (iz 20), .ref (r 1), .int (iz (z 1))])), (r 1, .inl (cI, n 1, .inl (iA (F 1)))), (o 3, .inr (1, [.int (iz 40), .ref (r 2), .int (iz (z 2))])), (r 2, .inl (cI, n 2, .inl (iA (F 2)))), (o 4, .inr (1, [.int (iz 5), .ref (r 3), .int (iz (z 3))])), (r 3, .inl (cI, n 3, .inl (iA (F 3))))]) (w1 := (sU cI 20 (o 5) (o 6) (o 7) (o 8) (r 4) (r 5) (r 6) (n 4) (n 5) (n 6) (z 4) (z 5) (z 6) (F 4) F2_8 F3_9)) (ws' := (eU cI o r n z (va_up (va_up F 5 F2_8) 6 F3_9))) hP hD [9, 10, 11, 12, 13, 14, 15] [0, 1, 2, 3, 4, 5, 6, 7, 8] [0, 1, 2, 3, 4, 5, 6, 7, 8, 9, 10, 11, 12, 13, 14, 15] rfl rfl (by decide) (by decide) hk1 hFc hP1 hD1 rfl (by decide)
      refine W.eq (g2 := F0 m 36 ls []) rfl ?_
      try dsimp only at hq_5
      obtain ⟨hd, hm, hg1, hg2⟩ := hq_5
      refine lv_aload_n hx hb dX0_endRange_36 rfl (lv_at hl 0 rfl) ?_
      refine lv_iconst (v := iz (-1)) hx hb dX0_endRange_37 (by decide) ?_
      refine va_put (D := (dC, dI)) (ci := 0) (v := .int (iz (-1))) (ty := .int) (C := RX0) (T := TX0) (N := 12) hx hb hts kt_X0 tyX0 tyX0_ok nmX0 hown hK hP hD hS 0 rfl rfl 7 (by decide) (kx_word hG kq_16_xentry_10 rfl) (fun _ h9 => h9) rfl (by decide +kernel) rfl rfl (Nat.le_of_ble_eq_true rfl) dX0_endRange_38 (fun H locs hP hD hS => ?_)
      have hP : va_P (dC, dI) kxCl (eU cI o r n (va_up z 9 (-1)) (va_up (va_up F 5 F2_8) 6 F3_9)) H := hP
      have hD : va_D A (eU cI o r n (va_up z 9 (-1)) (va_up (va_up F 5 F2_8) 6 F3_9)) := hD
      refine lv_iconst (v := iz 1) hx hb dX0_endRange_41 (by decide) ?_
      exact xk_iret (ov := (fun u : Int × Int × (Int → Int) × (Int → Int) => match u with | (q, z9', F5', F6') => some (.int (iz q)))) (post := (fun (u : Int × Int × (Int → Int) × (Int → Int)) (dn dm : Nat) => match u with | (q, z9', F5', F6') => dn = 0 ∧ dm = 0 ∧ iB F5' ∧ iB F6' ∧ (-2147483648 ≤ z9' ∧ z9' < 2147483648) ∧ ((q = 0 ∧ z9' = z 9 ∧ (0 ≤ z 9 → z 9 < z 4 → p0 < F 4 (z 9))) ∨ (q = 1 ∧ 0 ≤ z 9 ∧ (z 9 < z 4 → F 4 (z 9) ≤ p0) ∧ z9' = -1)))) (ws := (fun u : Int × Int × (Int → Int) × (Int → Int) => match u with | (q, z9', F5', F6') => (eU cI o r n (va_up z 9 z9') (va_up (va_up F 5 F5') 6 F6')))) (tys := xT cI cB cE) (z := 1) (1, (-1), F2_8, F3_9) hx hb hr (mz_bool (by omega)).1 hlocks rfl hP hD hK hS dX0_endRange_42 (fun dn dm hdn hdm => ⟨by omega, by omega, hg1, hg2, by omega, Or.inr ⟨rfl, by omega, fun h9 => by omega, rfl⟩⟩) (by omega) (by omega)
    · skip
      refine lv_iconst (v := iz 0) hx hb dX0_endRange_22 (by decide) ?_
      exact xk_iret (ov := (fun u : Int × Int × (Int → Int) × (Int → Int) => match u with | (q, z9', F5', F6') => some (.int (iz q)))) (post := (fun (u : Int × Int × (Int → Int) × (Int → Int)) (dn dm : Nat) => match u with | (q, z9', F5', F6') => dn = 0 ∧ dm = 0 ∧ iB F5' ∧ iB F6' ∧ (-2147483648 ≤ z9' ∧ z9' < 2147483648) ∧ ((q = 0 ∧ z9' = z 9 ∧ (0 ≤ z 9 → z 9 < z 4 → p0 < F 4 (z 9))) ∨ (q = 1 ∧ 0 ≤ z 9 ∧ (z 9 < z 4 → F 4 (z 9) ≤ p0) ∧ z9' = -1)))) (ws := (fun u : Int × Int × (Int → Int) × (Int → Int) => match u with | (q, z9', F5', F6') => (eU cI o r n (va_up z 9 z9') (va_up (va_up F 5 F5') 6 F6')))) (tys := xT cI cB cE) (z := 0) (0, z 9, F 5, F 6) hx hb hr (mz_bool (by omega)).1 hlocks rfl hP hD hK hS dX0_endRange_23 (fun dn dm hdn hdm => ⟨by omega, by omega, hE.2.1 5, hE.2.1 6, by omega, Or.inl ⟨rfl, rfl, fun h8 h9 => by omega⟩⟩) (by omega) (by omega)
set_option maxHeartbeats 4000000 in
set_option maxRecDepth 100000 in
theorem x_clearCounts (l : Launch) (dC : Nat → ClassId) (dI : Nat → Nat → Nat) (cI cB cE : ClassId) (o : Nat → Nat) (r : Nat → Nat) (n : Nat → Nat) (z : Nat → Int) (F : Nat → Int → Int) (sz : Nat) (hE : eOk n z F) : Met l yX0_clearCounts [.code yX0_clearCounts cX0_clearCounts 1 none] ({ frames := 0, cells := 0, slots := 0, locals := 0 }) (va_Pc [.ref (o 0)] (kx_Pre dC dI (eU cI o r n z F) (xT cI cB cE) sz)) (xQ (fun _ : Int × Int × Int => none) (fun (u : Int × Int × Int) (dn dm : Nat) => match u with | (z11', z12', z13') => dn = 0 ∧ dm = 0 ∧ 0 = z11' ∧ 0 = z12' ∧ 0 = z13') (fun u t => kx_At dC dI (va_A (eU cI o r n z F) sz) ((fun u : Int × Int × Int => match u with | (z11', z12', z13') => (eU cI o r n (va_up (va_up (va_up z 11 z11') 12 z12') 13 z13') F)) u) (xT cI cB cE) t) (va_A (eU cI o r n z F) sz)) 0 0 (va_A (eU cI o r n z F) sz) := by
  refine Met.ofW (cc := cX0_clearCounts) (maxL := 1) (ret := none) (by decide) rfl ?_
  intro p e s m args below meth c s₁ B hml hv
  obtain ⟨rfl, hsz, hP, hK, hD0, hG, hZ⟩ := hv
  have hx := B.exec
  have hb := B.bytes
  have hr := B.returns
  have hts := kx_hts (a := ([.ref (o 0)] : List Value).toArray) hG
  have hown : s.vm.findClass RX0 = some m.cls := findClass_of_methodNamed B.named
  have hlocks := B.notSynchronized
  subst hsz
  have hD := hD0.self (sz := s.heap.size)
  generalize hAe : va_A (eU cI o r n z F) s.heap.size = A at hD hZ ⊢
  have hA : ∀ q : Nat, s.heap.size ≤ q → A q := fun q h => by rw [← hAe]; exact Or.inr h
  have hS : va_S A s.heap s.heap [] := va_S.rf
  have hl := lv_entry ([.ref (o 0)]) (n := 1) (Nat.le_of_ble_eq_true rfl)
  rw [lg_entry_eq]
  generalize (lg_sl ([.ref (o 0)]) ++ List.replicate (1 - (lg_sl ([.ref (o 0)])).length) Slot.unset).toArray = ls at hl ⊢
  have hl : lv_has ls 1 [(0, .ref (o 0))] := hl
  have he0 : 0 ≤ z 0 ∧ z 0 ≤ (n 0 : Int) ∧ (n 0 : Int) ≤ 20 := hE.1 0 (by decide)
  have he1 : 0 ≤ z 1 ∧ z 1 ≤ (n 1 : Int) ∧ (n 1 : Int) ≤ 20 := hE.1 1 (by decide)
  have he2 : 0 ≤ z 2 ∧ z 2 ≤ (n 2 : Int) ∧ (n 2 : Int) ≤ 40 := hE.1 2 (by decide)
  have he3 : 0 ≤ z 3 ∧ z 3 ≤ (n 3 : Int) ∧ (n 3 : Int) ≤ 5 := hE.1 3 (by decide)
  have he4 : 0 ≤ z 4 ∧ z 4 ≤ (n 4 : Int) ∧ (n 4 : Int) ≤ 20 := hE.1 4 (by decide)
  have he5 : 0 ≤ z 5 ∧ z 5 ≤ (n 5 : Int) ∧ (n 5 : Int) ≤ 20 := hE.1 5 (by decide)
  have he6 : 0 ≤ z 6 ∧ z 6 ≤ (n 6 : Int) ∧ (n 6 : Int) ≤ 20 := hE.1 6 (by decide)
  have hbz7 := hE.2.2 7
  have hbz8 := hE.2.2 8
  have hbz9 := hE.2.2 9
  have hbz10 := hE.2.2 10
  have hbz11 := hE.2.2 11
  have hbz12 := hE.2.2 12
  have hbz13 := hE.2.2 13
  refine lv_aload_n hx hb dX0_clearCounts_0 rfl (lv_at hl 0 rfl) ?_
  refine lv_iconst (v := iz 0) hx hb dX0_clearCounts_1 (by decide) ?_
  refine va_put (D := (dC, dI)) (ci := 0) (v := .int (iz 0)) (ty := .int) (C := RX0) (T := TX0) (N := 12) hx hb hts kt_X0 tyX0 tyX0_ok nmX0 hown hK hP hD hS 0 rfl rfl 9 (by decide) (kx_word hG kq_16_xentry_19 rfl) (fun _ h9 => h9) rfl (by decide +kernel) rfl rfl (Nat.le_of_ble_eq_true rfl) dX0_clearCounts_2 (fun H locs hP hD hS => ?_)
  have hP : va_P (dC, dI) kxCl (eU cI o r n (va_up z 11 0) F) H := hP
  have hD : va_D A (eU cI o r n (va_up z 11 0) F) := hD
  refine lv_aload_n hx hb dX0_clearCounts_5 rfl (lv_at hl 0 rfl) ?_
  refine lv_iconst (v := iz 0) hx hb dX0_clearCounts_6 (by decide) ?_
  refine va_put (D := (dC, dI)) (ci := 0) (v := .int (iz 0)) (ty := .int) (C := RX0) (T := TX0) (N := 12) hx hb hts kt_X0 tyX0 tyX0_ok nmX0 hown hK hP hD hS 0 rfl rfl 10 (by decide) (kx_word hG kq_16_xentry_20 rfl) (fun _ h9 => h9) rfl (by decide +kernel) rfl rfl (Nat.le_of_ble_eq_true rfl) dX0_clearCounts_7 (fun H locs hP hD hS => ?_)
  have hP : va_P (dC, dI) kxCl (eU cI o r n (va_up (va_up z 11 0) 12 0) F) H := hP
  have hD : va_D A (eU cI o r n (va_up (va_up z 11 0) 12 0) F) := hD
  refine lv_aload_n hx hb dX0_clearCounts_10 rfl (lv_at hl 0 rfl) ?_
  refine lv_iconst (v := iz 0) hx hb dX0_clearCounts_11 (by decide) ?_
  refine va_put (D := (dC, dI)) (ci := 0) (v := .int (iz 0)) (ty := .int) (C := RX0) (T := TX0) (N := 12) hx hb hts kt_X0 tyX0 tyX0_ok nmX0 hown hK hP hD hS 0 rfl rfl 11 (by decide) (kx_word hG kq_16_xentry_21 rfl) (fun _ h9 => h9) rfl (by decide +kernel) rfl rfl (Nat.le_of_ble_eq_true rfl) dX0_clearCounts_12 (fun H locs hP hD hS => ?_)
  have hP : va_P (dC, dI) kxCl (eU cI o r n (va_up (va_up (va_up z 11 0) 12 0) 13 0) F) H := hP
  have hD : va_D A (eU cI o r n (va_up (va_up (va_up z 11 0) 12 0) 13 0) F) := hD
  exact xk_vret (ov := (fun _ : Int × Int × Int => none)) (post := (fun (u : Int × Int × Int) (dn dm : Nat) => match u with | (z11', z12', z13') => dn = 0 ∧ dm = 0 ∧ 0 = z11' ∧ 0 = z12' ∧ 0 = z13')) (ws := (fun u : Int × Int × Int => match u with | (z11', z12', z13') => (eU cI o r n (va_up (va_up (va_up z 11 z11') 12 z12') 13 z13') F))) (tys := xT cI cB cE) (0, 0, 0) hx hb hr hlocks rfl hP hD hK hS dX0_clearCounts_15 (fun dn dm hdn hdm => ⟨by omega, by omega, rfl, rfl, rfl⟩) (by omega) (by omega)
set_option maxHeartbeats 4000000 in
set_option maxRecDepth 100000 in
theorem x_isEmptyRow (l : Launch) (dC : Nat → ClassId) (dI : Nat → Nat → Nat) (cI cB cE : ClassId) (o : Nat → Nat) (r : Nat → Nat) (n : Nat → Nat) (z : Nat → Int) (F : Nat → Int → Int) (sz : Nat) (hE : eOk n z F) : Met l yX0_isEmptyRow [.code yX0_isEmptyRow cX0_isEmptyRow 1 (some .boolean)] ({ frames := 0, cells := 0, slots := 0, locals := 0 }) (va_Pc [.ref (o 0)] (pPre dC dI (eU cI o r n z F) (xT cI cB cE) sz)) (pQ (fun z => some (.int (iz z))) (fun (q : Int) => q = 0 ∨ q = 1)) 0 0 (fun _ => False) := by
  refine Met.ofW (cc := cX0_isEmptyRow) (maxL := 1) (ret := (some .boolean)) (by decide) rfl ?_
  intro p e s m args below meth c s₁ B hml hv
  obtain ⟨rfl, hsz, hP, hK, hG⟩ := hv
  have hx := B.exec
  have hb := B.bytes
  have hr := B.returns
  have hts := kx_hts (a := ([.ref (o 0)] : List Value).toArray) hG
  have hown : s.vm.findClass RX0 = some m.cls := findClass_of_methodNamed B.named
  have hlocks := B.notSynchronized
  subst hsz
  have hS : va_S (fun _ => False) s.heap s.heap [] := va_S.rf
  have hl := lv_entry ([.ref (o 0)]) (n := 1) (Nat.le_of_ble_eq_true rfl)
  rw [lg_entry_eq]
  generalize (lg_sl ([.ref (o 0)]) ++ List.replicate (1 - (lg_sl ([.ref (o 0)])).length) Slot.unset).toArray = ls at hl ⊢
  have hl : lv_has ls 1 [(0, .ref (o 0))] := hl
  have he0 : 0 ≤ z 0 ∧ z 0 ≤ (n 0 : Int) ∧ (n 0 : Int) ≤ 20 := hE.1 0 (by decide)
  have he1 : 0 ≤ z 1 ∧ z 1 ≤ (n 1 : Int) ∧ (n 1 : Int) ≤ 20 := hE.1 1 (by decide)
  have he2 : 0 ≤ z 2 ∧ z 2 ≤ (n 2 : Int) ∧ (n 2 : Int) ≤ 40 := hE.1 2 (by decide)
  have he3 : 0 ≤ z 3 ∧ z 3 ≤ (n 3 : Int) ∧ (n 3 : Int) ≤ 5 := hE.1 3 (by decide)
  have he4 : 0 ≤ z 4 ∧ z 4 ≤ (n 4 : Int) ∧ (n 4 : Int) ≤ 20 := hE.1 4 (by decide)
  have he5 : 0 ≤ z 5 ∧ z 5 ≤ (n 5 : Int) ∧ (n 5 : Int) ≤ 20 := hE.1 5 (by decide)
  have he6 : 0 ≤ z 6 ∧ z 6 ≤ (n 6 : Int) ∧ (n 6 : Int) ≤ 20 := hE.1 6 (by decide)
  have hbz7 := hE.2.2 7
  have hbz8 := hE.2.2 8
  have hbz9 := hE.2.2 9
  have hbz10 := hE.2.2 10
  have hbz11 := hE.2.2 11
  have hbz12 := hE.2.2 12
  have hbz13 := hE.2.2 13
  refine lv_aload_n hx hb dX0_isEmptyRow_0 rfl (lv_at hl 0 rfl) ?_
  refine va_get (D := (dC, dI)) (ci := 0) (v := .int (iz (z 11))) (C := RX0) (T := TX0) (N := 12) hx hb hts kt_X0 hown hK hP 0 rfl rfl 9 (by decide) (kx_word hG kq_16_xentry_19 rfl) (fun _ h9 => h9) rfl dX0_isEmptyRow_1 ?_
  refine ki_if_ne (tgt := 25) hx hb dX0_isEmptyRow_4 (by decide) (by omega) (by omega) (fun c_1 => ?_) (fun c_1 => ?_)
  · skip
    refine lv_iconst (v := iz 0) hx hb dX0_isEmptyRow_25 (by decide) ?_
    exact xp_iret (z := 0) hx hb hr (mz_bool (by omega)).1 hlocks rfl hS.2.2 dX0_isEmptyRow_26 (by omega)
  · skip
    refine lv_aload_n hx hb dX0_isEmptyRow_7 rfl (lv_at hl 0 rfl) ?_
    refine va_get (D := (dC, dI)) (ci := 0) (v := .int (iz (z 12))) (C := RX0) (T := TX0) (N := 12) hx hb hts kt_X0 hown hK hP 0 rfl rfl 10 (by decide) (kx_word hG kq_16_xentry_20 rfl) (fun _ h9 => h9) rfl dX0_isEmptyRow_8 ?_
    refine ki_if_ne (tgt := 25) hx hb dX0_isEmptyRow_11 (by decide) (by omega) (by omega) (fun c_2 => ?_) (fun c_2 => ?_)
    · skip
      refine lv_iconst (v := iz 0) hx hb dX0_isEmptyRow_25 (by decide) ?_
      exact xp_iret (z := 0) hx hb hr (mz_bool (by omega)).1 hlocks rfl hS.2.2 dX0_isEmptyRow_26 (by omega)
    · skip
      refine lv_aload_n hx hb dX0_isEmptyRow_14 rfl (lv_at hl 0 rfl) ?_
      refine va_get (D := (dC, dI)) (ci := 0) (v := .int (iz (z 13))) (C := RX0) (T := TX0) (N := 12) hx hb hts kt_X0 hown hK hP 0 rfl rfl 11 (by decide) (kx_word hG kq_16_xentry_21 rfl) (fun _ h9 => h9) rfl dX0_isEmptyRow_15 ?_
      refine ki_if_ne (tgt := 25) hx hb dX0_isEmptyRow_18 (by decide) (by omega) (by omega) (fun c_3 => ?_) (fun c_3 => ?_)
      · skip
        refine lv_iconst (v := iz 0) hx hb dX0_isEmptyRow_25 (by decide) ?_
        exact xp_iret (z := 0) hx hb hr (mz_bool (by omega)).1 hlocks rfl hS.2.2 dX0_isEmptyRow_26 (by omega)
      · skip
        refine lv_iconst (v := iz 1) hx hb dX0_isEmptyRow_21 (by decide) ?_
        refine lv_goto (tgt := 26) hx hb dX0_isEmptyRow_22 (by decide) ?_
        exact xp_iret (z := 1) hx hb hr (mz_bool (by omega)).1 hlocks rfl hS.2.2 dX0_isEmptyRow_26 (by omega)
set_option maxHeartbeats 4000000 in
set_option maxRecDepth 100000 in
theorem x_group (l : Launch) (dC : Nat → ClassId) (dI : Nat → Nat → Nat) (cI cB cE : ClassId) (o : Nat → Nat) (r : Nat → Nat) (n : Nat → Nat) (z : Nat → Int) (F : Nat → Int → Int) (sz : Nat) (hE : eOk n z F) : Met l yX0_group [.code yX0_group cX0_group 1 (some .int)] ({ frames := 1, cells := 0, slots := 0, locals := 21 }) (va_Pc [.ref (o 0)] (pPre dC dI (eU cI o r n z F) (xT cI cB cE) sz)) (pQ (fun z => some (.int (iz z))) (fun (q : Int) => -2147483648 ≤ q ∧ q < 2147483648)) 0 0 (fun _ => False) := by
  refine Met.ofW (cc := cX0_group) (maxL := 1) (ret := (some .int)) (by decide) rfl ?_
  intro p e s m args below meth c s₁ B hml hv
  obtain ⟨rfl, hsz, hP, hK, hG⟩ := hv
  have hx := B.exec
  have hb := B.bytes
  have hr := B.returns
  have hts := kx_hts (a := ([.ref (o 0)] : List Value).toArray) hG
  have hown : s.vm.findClass RX0 = some m.cls := findClass_of_methodNamed B.named
  have hlocks := B.notSynchronized
  subst hsz
  have hS : va_S (fun _ => False) s.heap s.heap [] := va_S.rf
  have hl := lv_entry ([.ref (o 0)]) (n := 1) (Nat.le_of_ble_eq_true rfl)
  rw [lg_entry_eq]
  generalize (lg_sl ([.ref (o 0)]) ++ List.replicate (1 - (lg_sl ([.ref (o 0)])).length) Slot.unset).toArray = ls at hl ⊢
  have hl : lv_has ls 1 [(0, .ref (o 0))] := hl
  have he0 : 0 ≤ z 0 ∧ z 0 ≤ (n 0 : Int) ∧ (n 0 : Int) ≤ 20 := hE.1 0 (by decide)
  have he1 : 0 ≤ z 1 ∧ z 1 ≤ (n 1 : Int) ∧ (n 1 : Int) ≤ 20 := hE.1 1 (by decide)
  have he2 : 0 ≤ z 2 ∧ z 2 ≤ (n 2 : Int) ∧ (n 2 : Int) ≤ 40 := hE.1 2 (by decide)
  have he3 : 0 ≤ z 3 ∧ z 3 ≤ (n 3 : Int) ∧ (n 3 : Int) ≤ 5 := hE.1 3 (by decide)
  have he4 : 0 ≤ z 4 ∧ z 4 ≤ (n 4 : Int) ∧ (n 4 : Int) ≤ 20 := hE.1 4 (by decide)
  have he5 : 0 ≤ z 5 ∧ z 5 ≤ (n 5 : Int) ∧ (n 5 : Int) ≤ 20 := hE.1 5 (by decide)
  have he6 : 0 ≤ z 6 ∧ z 6 ≤ (n 6 : Int) ∧ (n 6 : Int) ≤ 20 := hE.1 6 (by decide)
  have hbz7 := hE.2.2 7
  have hbz8 := hE.2.2 8
  have hbz9 := hE.2.2 9
  have hbz10 := hE.2.2 10
  have hbz11 := hE.2.2 11
  have hbz12 := hE.2.2 12
  have hbz13 := hE.2.2 13
  refine lv_aload_n hx hb dX0_group_0 rfl (lv_at hl 0 rfl) ?_
  refine va_get (D := (dC, dI)) (ci := 0) (v := .ref (o 3)) (C := RX0) (T := TX0) (N := 12) hx hb hts kt_X0 hown hK hP 0 rfl rfl 4 (by decide) (kx_word hG kq_16_xentry_22 rfl) (fun _ h9 => h9) rfl dX0_group_1 ?_
  have hPc := hP.sub (ws' := (iU cI 40 (o 3) (r 2) (n 2) (z 2) (F 2))) [5, 6] rfl
  refine xk_pure (va_runV (As := []) (rest := []) ⟨hx, hb, hml, hown, hts⟩ (x_size l dC dI cI cB cE 40 (o 3) (r 2) (n 2) (z 2) (F 2)  s.heap.size ) (cwV 0 hts (kx_gV kq_16_xentry_23 kq_15_xspan_10 kq_15_xspan_11 kq_13_xints_6 kq_15_xspan_12 rfl) rfl rfl rfl (by decide +kernel) ⟨Nat.le_of_ble_eq_true rfl, Nat.le_of_ble_eq_true rfl⟩) ⟨pPre_blind, va_recv hK hPc (ci := 1) (q0 := 0) rfl rfl, pPre_give hPc hK hG⟩ rfl rfl hl.1 rfl (lv_room (Nat.le_of_ble_eq_true rfl)) dX0_group_4 ⟨Nat.le_of_ble_eq_true rfl, Nat.le_of_ble_eq_true rfl⟩) hS (fun z_2 locs hq_1 hS => ?_)
  refine W.eq (g2 := F0 m 7 ls [.int (iz z_2)]) rfl ?_
  try dsimp only at hq_1
  have hq_1 := hq_1.symm
  subst hq_1
  refine ki_if_ne (tgt := 12) hx hb dX0_group_7 (by decide) (by omega) (by omega) (fun c_3 => ?_) (fun c_3 => ?_)
  · skip
    refine lv_aload_n hx hb dX0_group_12 rfl (lv_at hl 0 rfl) ?_
    refine va_get (D := (dC, dI)) (ci := 0) (v := .ref (o 3)) (C := RX0) (T := TX0) (N := 12) hx hb hts kt_X0 hown hK hP 0 rfl rfl 4 (by decide) (kx_word hG kq_16_xentry_22 rfl) (fun _ h9 => h9) rfl dX0_group_13 ?_
    refine lv_iconst (v := iz 0) hx hb dX0_group_16 (by decide) ?_
    have hPc := hP.sub (ws' := (iU cI 40 (o 3) (r 2) (n 2) (z 2) (F 2))) [5, 6] rfl
    refine xk_pure (va_runV (As := [.int (iz 0)]) (rest := []) ⟨hx, hb, hml, hown, hts⟩ (x_get l dC dI cI cB cE 40 (o 3) (r 2) (n 2) (z 2) (F 2) 0 s.heap.size (by omega) (hE.2.1 2) (by omega) (by omega)) (cwV 1 hts (kx_gV kq_16_xentry_24 kq_13_xints_4 kq_13_xints_5 kq_13_xints_6 kq_13_xints_7 rfl) rfl rfl rfl (by decide +kernel) ⟨Nat.le_of_ble_eq_true rfl, Nat.le_of_ble_eq_true rfl⟩) ⟨pPre_blind, va_recv hK hPc (ci := 1) (q0 := 0) rfl rfl, pPre_give hPc hK hG⟩ rfl rfl hl.1 rfl (lv_room (Nat.le_of_ble_eq_true rfl)) dX0_group_17 ⟨Nat.le_of_ble_eq_true rfl, Nat.le_of_ble_eq_true rfl⟩) hS (fun z_5 locs hq_4 hS => ?_)
    refine W.eq (g2 := F0 m 20 ls [.int (iz z_5)]) rfl ?_
    try dsimp only at hq_4
    refine lv_bipush (v := iz 97) hx hb dX0_group_20 (by decide) ?_
    refine ki_icmp_ge (tgt := 29) hx hb dX0_group_22 (by decide) (by omega) (by omega) (by omega) (by omega) (fun c_6 => ?_) (fun c_6 => ?_)
    · skip
      refine lv_aload_n hx hb dX0_group_29 rfl (lv_at hl 0 rfl) ?_
      refine va_get (D := (dC, dI)) (ci := 0) (v := .ref (o 3)) (C := RX0) (T := TX0) (N := 12) hx hb hts kt_X0 hown hK hP 0 rfl rfl 4 (by decide) (kx_word hG kq_16_xentry_22 rfl) (fun _ h9 => h9) rfl dX0_group_30 ?_
      refine lv_iconst (v := iz 0) hx hb dX0_group_33 (by decide) ?_
      have hPc := hP.sub (ws' := (iU cI 40 (o 3) (r 2) (n 2) (z 2) (F 2))) [5, 6] rfl
      refine xk_pure (va_runV (As := [.int (iz 0)]) (rest := []) ⟨hx, hb, hml, hown, hts⟩ (x_get l dC dI cI cB cE 40 (o 3) (r 2) (n 2) (z 2) (F 2) 0 s.heap.size (by omega) (hE.2.1 2) (by omega) (by omega)) (cwV 1 hts (kx_gV kq_16_xentry_24 kq_13_xints_4 kq_13_xints_5 kq_13_xints_6 kq_13_xints_7 rfl) rfl rfl rfl (by decide +kernel) ⟨Nat.le_of_ble_eq_true rfl, Nat.le_of_ble_eq_true rfl⟩) ⟨pPre_blind, va_recv hK hPc (ci := 1) (q0 := 0) rfl rfl, pPre_give hPc hK hG⟩ rfl rfl hl.1 rfl (lv_room (Nat.le_of_ble_eq_true rfl)) dX0_group_34 ⟨Nat.le_of_ble_eq_true rfl, Nat.le_of_ble_eq_true rfl⟩) hS (fun z_8 locs hq_7 hS => ?_)
      refine W.eq (g2 := F0 m 37 ls [.int (iz z_8)]) rfl ?_
      try dsimp only at hq_7
      exact xp_iret (z := z_8) hx hb hr rfl hlocks rfl hS.2.2 dX0_group_37 (by omega)
    · skip
      refine lv_iconst (v := iz 1) hx hb dX0_group_25 (by decide) ?_
      refine lv_goto (tgt := 37) hx hb dX0_group_26 (by decide) ?_
      exact xp_iret (z := 1) hx hb hr rfl hlocks rfl hS.2.2 dX0_group_37 (by omega)
  · skip
    refine lv_iconst (v := iz 0) hx hb dX0_group_10 (by decide) ?_
    exact xp_iret (z := 0) hx hb hr rfl hlocks rfl hS.2.2 dX0_group_11 (by omega)
set_option maxHeartbeats 4000000 in
set_option maxRecDepth 100000 in
theorem x_eorderTo (l : Launch) (dC : Nat → ClassId) (dI : Nat → Nat → Nat) (cI cB cE : ClassId) (o : Nat → Nat) (r : Nat → Nat) (n : Nat → Nat) (z : Nat → Int) (F : Nat → Int → Int) (ob : Nat → Nat) (rb : Nat → Nat) (nb : Nat → Nat) (zb : Nat → Int) (Fb : Nat → Int → Int) (sz : Nat) (hE : eOk n z F) (hEb : eOk nb zb Fb) : Met l yX0_orderTo [.code yX0_orderTo cX0_orderTo 3 (some .int)] ({ frames := 2, cells := 0, slots := 0, locals := 45 }) (va_Pc [.ref (o 0), .ref (ob 0)] (pPre dC dI ((eU cI o r n z F) ++ (eU cI ob rb nb zb Fb)) (xT cI cB cE) sz)) (pQ (fun z => some (.int (iz z))) (fun (q : Int) => -1 ≤ q ∧ q ≤ 1)) 0 0 (fun _ => False) := by
  refine Met.ofW (cc := cX0_orderTo) (maxL := 3) (ret := (some .int)) (by decide) rfl ?_
  intro p e s m args below meth c s₁ B hml hv
  obtain ⟨rfl, hsz, hP, hK, hG⟩ := hv
  have hx := B.exec
  have hb := B.bytes
  have hr := B.returns
  have hts := kx_hts (a := ([.ref (o 0), .ref (ob 0)] : List Value).toArray) hG
  have hown : s.vm.findClass RX0 = some m.cls := findClass_of_methodNamed B.named
  have hlocks := B.notSynchronized
  subst hsz
  have hS : va_S (fun _ => False) s.heap s.heap [] := va_S.rf
  have hl := lv_entry ([.ref (o 0), .ref (ob 0)]) (n := 3) (Nat.le_of_ble_eq_true rfl)
  rw [lg_entry_eq]
  generalize (lg_sl ([.ref (o 0), .ref (ob 0)]) ++ List.replicate (3 - (lg_sl ([.ref (o 0), .ref (ob 0)])).length) Slot.unset).toArray = ls at hl ⊢
  have hl : lv_has ls 3 [(0, .ref (o 0)), (1, .ref (ob 0))] := hl
  have he0 : 0 ≤ z 0 ∧ z 0 ≤ (n 0 : Int) ∧ (n 0 : Int) ≤ 20 := hE.1 0 (by decide)
  have he1 : 0 ≤ z 1 ∧ z 1 ≤ (n 1 : Int) ∧ (n 1 : Int) ≤ 20 := hE.1 1 (by decide)
  have he2 : 0 ≤ z 2 ∧ z 2 ≤ (n 2 : Int) ∧ (n 2 : Int) ≤ 40 := hE.1 2 (by decide)
  have he3 : 0 ≤ z 3 ∧ z 3 ≤ (n 3 : Int) ∧ (n 3 : Int) ≤ 5 := hE.1 3 (by decide)
  have he4 : 0 ≤ z 4 ∧ z 4 ≤ (n 4 : Int) ∧ (n 4 : Int) ≤ 20 := hE.1 4 (by decide)
  have he5 : 0 ≤ z 5 ∧ z 5 ≤ (n 5 : Int) ∧ (n 5 : Int) ≤ 20 := hE.1 5 (by decide)
  have he6 : 0 ≤ z 6 ∧ z 6 ≤ (n 6 : Int) ∧ (n 6 : Int) ≤ 20 := hE.1 6 (by decide)
  have hbz7 := hE.2.2 7
  have hbz8 := hE.2.2 8
  have hbz9 := hE.2.2 9
  have hbz10 := hE.2.2 10
  have hbz11 := hE.2.2 11
  have hbz12 := hE.2.2 12
  have hbz13 := hE.2.2 13
  have heb0 : 0 ≤ zb 0 ∧ zb 0 ≤ (nb 0 : Int) ∧ (nb 0 : Int) ≤ 20 := hEb.1 0 (by decide)
  have heb1 : 0 ≤ zb 1 ∧ zb 1 ≤ (nb 1 : Int) ∧ (nb 1 : Int) ≤ 20 := hEb.1 1 (by decide)
  have heb2 : 0 ≤ zb 2 ∧ zb 2 ≤ (nb 2 : Int) ∧ (nb 2 : Int) ≤ 40 := hEb.1 2 (by decide)
  have heb3 : 0 ≤ zb 3 ∧ zb 3 ≤ (nb 3 : Int) ∧ (nb 3 : Int) ≤ 5 := hEb.1 3 (by decide)
  have heb4 : 0 ≤ zb 4 ∧ zb 4 ≤ (nb 4 : Int) ∧ (nb 4 : Int) ≤ 20 := hEb.1 4 (by decide)
  have heb5 : 0 ≤ zb 5 ∧ zb 5 ≤ (nb 5 : Int) ∧ (nb 5 : Int) ≤ 20 := hEb.1 5 (by decide)
  have heb6 : 0 ≤ zb 6 ∧ zb 6 ≤ (nb 6 : Int) ∧ (nb 6 : Int) ≤ 20 := hEb.1 6 (by decide)
  have hbzb7 := hEb.2.2 7
  have hbzb8 := hEb.2.2 8
  have hbzb9 := hEb.2.2 9
  have hbzb10 := hEb.2.2 10
  have hbzb11 := hEb.2.2 11
  have hbzb12 := hEb.2.2 12
  have hbzb13 := hEb.2.2 13
  refine lv_aload_n hx hb dX0_orderTo_0 rfl (lv_at hl 0 rfl) ?_
  refine va_get (D := (dC, dI)) (ci := 0) (v := .ref (o 3)) (C := RX0) (T := TX0) (N := 12) hx hb hts kt_X0 hown hK hP 0 rfl rfl 4 (by decide) (kx_word hG kq_16_xentry_22 rfl) (fun _ h9 => h9) rfl dX0_orderTo_1 ?_
  refine lv_aload_n hx hb dX0_orderTo_4 rfl (lv_at hl 1 rfl) ?_
  refine va_get (D := (dC, dI)) (ci := 0) (v := .ref (ob 3)) (C := RX0) (T := TX0) (N := 12) hx hb hts kt_X0 hown hK hP 16 rfl rfl 4 (by decide) (kx_word hG kq_16_xentry_22 rfl) (fun _ h9 => h9) rfl dX0_orderTo_5 ?_
  have hPc := hP.sub (ws' := ((iU cI 40 (o 3) (r 2) (n 2) (z 2) (F 2)) ++ (iU cI 40 (ob 3) (rb 2) (nb 2) (zb 2) (Fb 2)))) [5, 6, 21, 22] rfl
  refine xk_pure (va_runV (As := [.ref (ob 3)]) (rest := []) ⟨hx, hb, hml, hown, hts⟩ (x_orderTo l dC dI cI cB cE 40 (o 3) (r 2) (n 2) (z 2) (F 2) 40 (ob 3) (rb 2) (nb 2) (zb 2) (Fb 2)  s.heap.size (by omega) (hE.2.1 2) (by omega) (hEb.2.1 2)) (cwV 1 hts (kx_gV kq_16_xentry_25 kq_16_xentry_26 kq_16_xentry_27 kq_13_xints_6 kq_16_xentry_28 rfl) rfl rfl rfl (by decide +kernel) ⟨Nat.le_of_ble_eq_true rfl, Nat.le_of_ble_eq_true rfl⟩) ⟨pPre_blind, va_recv hK hPc (ci := 1) (q0 := 0) rfl rfl, pPre_give hPc hK hG⟩ rfl rfl hl.1 rfl (lv_room (Nat.le_of_ble_eq_true rfl)) dX0_orderTo_8 ⟨Nat.le_of_ble_eq_true rfl, Nat.le_of_ble_eq_true rfl⟩) hS (fun z_2 locs hq_1 hS => ?_)
  refine W.eq (g2 := F0 m 11 ls [.int (iz z_2)]) rfl ?_
  try dsimp only at hq_1
  refine lv_istore_n (lv' := [(2, .int (iz z_2)), (0, .ref (o 0)), (1, .ref (ob 0))]) hx hb dX0_orderTo_11 rfl hl (by decide) rfl (fun ls hl => ?_)
  refine lv_iload_n hx hb dX0_orderTo_12 rfl (lv_at hl 0 rfl) ?_
  refine ki_if_eq (tgt := 20) hx hb dX0_orderTo_13 (by decide) (by omega) (by omega) (fun c_3 => ?_) (fun c_3 => ?_)
  · skip
    refine lv_aload_n hx hb dX0_orderTo_20 rfl (lv_at hl 1 rfl) ?_
    refine va_get (D := (dC, dI)) (ci := 0) (v := .ref (o 2)) (C := RX0) (T := TX0) (N := 12) hx hb hts kt_X0 hown hK hP 0 rfl rfl 3 (by decide) (kx_word hG kq_16_xentry_6 rfl) (fun _ h9 => h9) rfl dX0_orderTo_21 ?_
    refine lv_aload_n hx hb dX0_orderTo_24 rfl (lv_at hl 2 rfl) ?_
    refine va_get (D := (dC, dI)) (ci := 0) (v := .ref (ob 2)) (C := RX0) (T := TX0) (N := 12) hx hb hts kt_X0 hown hK hP 16 rfl rfl 3 (by decide) (kx_word hG kq_16_xentry_6 rfl) (fun _ h9 => h9) rfl dX0_orderTo_25 ?_
    have hPc := hP.sub (ws' := ((iU cI 20 (o 2) (r 1) (n 1) (z 1) (F 1)) ++ (iU cI 20 (ob 2) (rb 1) (nb 1) (zb 1) (Fb 1)))) [3, 4, 19, 20] rfl
    refine xk_pure (va_runV (As := [.ref (ob 2)]) (rest := []) ⟨hx, hb, hml, hown, hts⟩ (x_orderTo l dC dI cI cB cE 20 (o 2) (r 1) (n 1) (z 1) (F 1) 20 (ob 2) (rb 1) (nb 1) (zb 1) (Fb 1)  s.heap.size (by omega) (hE.2.1 1) (by omega) (hEb.2.1 1)) (cwV 1 hts (kx_gV kq_16_xentry_25 kq_16_xentry_26 kq_16_xentry_27 kq_13_xints_6 kq_16_xentry_28 rfl) rfl rfl rfl (by decide +kernel) ⟨Nat.le_of_ble_eq_true rfl, Nat.le_of_ble_eq_true rfl⟩) ⟨pPre_blind, va_recv hK hPc (ci := 1) (q0 := 0) rfl rfl, pPre_give hPc hK hG⟩ rfl rfl hl.1 rfl (lv_room (Nat.le_of_ble_eq_true rfl)) dX0_orderTo_28 ⟨Nat.le_of_ble_eq_true rfl, Nat.le_of_ble_eq_true rfl⟩) hS (fun z_5 locs hq_4 hS => ?_)
    refine W.eq (g2 := F0 m 31 ls [.int (iz z_5)]) rfl ?_
    try dsimp only at hq_4
    exact xp_iret (z := z_5) hx hb hr rfl hlocks rfl hS.2.2 dX0_orderTo_31 (by omega)
  · skip
    refine lv_iload_n hx hb dX0_orderTo_16 rfl (lv_at hl 0 rfl) ?_
    refine lv_goto (tgt := 31) hx hb dX0_orderTo_17 (by decide) ?_
    exact xp_iret (z := z_2) hx hb hr rfl hlocks rfl hS.2.2 dX0_orderTo_31 (by omega)
set_option maxHeartbeats 4000000 in
set_option maxRecDepth 100000 in
theorem x_digitsEnd (l : Launch) (dC : Nat → ClassId) (dI : Nat → Nat → Nat) (cI cB cE : ClassId) (o : Nat → Nat) (r : Nat → Nat) (n : Nat → Nat) (z : Nat → Int) (F : Nat → Int → Int) (p0 : Int) (sz : Nat) (hE : eOk n z F) (h0 : 0 ≤ p0 ∧ p0 ≤ 100) (hp01 : -2147483648 ≤ p0) (hp02 : p0 < 2147483648) : Met l yX0_digitsEnd [.code yX0_digitsEnd cX0_digitsEnd 3 (some .int)] ({ frames := 1, cells := 0, slots := 0, locals := 21 }) (va_Pc [.ref (o 0), .int (iz p0)] (pPre dC dI (eU cI o r n z F) (xT cI cB cE) sz)) (pQ (fun z => some (.int (iz z))) (fun (q : Int) => p0 ≤ q ∧ (q ≤ p0 ∨ q ≤ z 0))) 0 0 (fun _ => False) := by
  refine Met.ofW (cc := cX0_digitsEnd) (maxL := 3) (ret := (some .int)) (by decide) rfl ?_
  intro p e s m args below meth c s₁ B hml hv
  obtain ⟨rfl, hsz, hP, hK, hG⟩ := hv
  have hx := B.exec
  have hb := B.bytes
  have hr := B.returns
  have hts := kx_hts (a := ([.ref (o 0), .int (iz p0)] : List Value).toArray) hG
  have hown : s.vm.findClass RX0 = some m.cls := findClass_of_methodNamed B.named
  have hlocks := B.notSynchronized
  subst hsz
  have hS : va_S (fun _ => False) s.heap s.heap [] := va_S.rf
  have hl := lv_entry ([.ref (o 0), .int (iz p0)]) (n := 3) (Nat.le_of_ble_eq_true rfl)
  rw [lg_entry_eq]
  generalize (lg_sl ([.ref (o 0), .int (iz p0)]) ++ List.replicate (3 - (lg_sl ([.ref (o 0), .int (iz p0)])).length) Slot.unset).toArray = ls at hl ⊢
  have hl : lv_has ls 3 [(0, .ref (o 0)), (1, .int (iz p0))] := hl
  generalize hQe : MQ below (pQ (fun z => some (.int (iz z))) (fun (q : Int) => p0 ≤ q ∧ (q ≤ p0 ∨ q ≤ z 0))) ([.ref (o 0), .int (iz p0)] : List Value).toArray s 0 0 (fun _ => False) = QQ
  have he0 : 0 ≤ z 0 ∧ z 0 ≤ (n 0 : Int) ∧ (n 0 : Int) ≤ 20 := hE.1 0 (by decide)
  have he1 : 0 ≤ z 1 ∧ z 1 ≤ (n 1 : Int) ∧ (n 1 : Int) ≤ 20 := hE.1 1 (by decide)
  have he2 : 0 ≤ z 2 ∧ z 2 ≤ (n 2 : Int) ∧ (n 2 : Int) ≤ 40 := hE.1 2 (by decide)
  have he3 : 0 ≤ z 3 ∧ z 3 ≤ (n 3 : Int) ∧ (n 3 : Int) ≤ 5 := hE.1 3 (by decide)
  have he4 : 0 ≤ z 4 ∧ z 4 ≤ (n 4 : Int) ∧ (n 4 : Int) ≤ 20 := hE.1 4 (by decide)
  have he5 : 0 ≤ z 5 ∧ z 5 ≤ (n 5 : Int) ∧ (n 5 : Int) ≤ 20 := hE.1 5 (by decide)
  have he6 : 0 ≤ z 6 ∧ z 6 ≤ (n 6 : Int) ∧ (n 6 : Int) ≤ 20 := hE.1 6 (by decide)
  have hbz7 := hE.2.2 7
  have hbz8 := hE.2.2 8
  have hbz9 := hE.2.2 9
  have hbz10 := hE.2.2 10
  have hbz11 := hE.2.2 11
  have hbz12 := hE.2.2 12
  have hbz13 := hE.2.2 13
  refine lv_iload_n hx hb dX0_digitsEnd_0 rfl (lv_at hl 1 rfl) ?_
  refine lv_istore_n (lv' := [(2, .int (iz p0)), (0, .ref (o 0)), (1, .int (iz p0))]) hx hb dX0_digitsEnd_1 rfl hl (by decide) rfl (fun ls hl => ?_)
  have lp2 : ∀ (n0 : Nat) (k : Int), ((p0 ≤ k ∧ (k ≤ p0 ∨ k ≤ z 0))) → (z 0 - k).toNat < n0 → ∀ (locs : List Loc), va_S (fun _ => False) s.heap s.heap locs → ∀ ls : Array Slot, lv_has ls 3 [(2, .int (iz k)), (0, .ref (o 0)), (1, .int (iz p0))] → W p l e (headSpec [.code yX0_digitsEnd cX0_digitsEnd 3 (some .int)] ({ frames := 1, cells := 0, slots := 0, locals := 21 })).room s m ([.ref (o 0), .int (iz p0)] : List Value).toArray below meth c s.heap locs 0 0 QQ (F0 m 2 ls []) := by
    intro n0
    induction n0 with
    | zero => intro k hinv hm0; exact absurd hm0 (Nat.not_lt_zero _)
    | succ n0 ih2 =>
      intro k hinv hm0 locs hS ls hl
      have hk := hinv
      refine lv_iload_n hx hb dX0_digitsEnd_2 rfl (lv_at hl 0 rfl) ?_
      refine lv_aload_n hx hb dX0_digitsEnd_3 rfl (lv_at hl 1 rfl) ?_
      refine va_get (D := (dC, dI)) (ci := 0) (v := .ref (o 1)) (C := RX0) (T := TX0) (N := 12) hx hb hts kt_X0 hown hK hP 0 rfl rfl 2 (by decide) (kx_word hG kq_16_xentry_4 rfl) (fun _ h9 => h9) rfl dX0_digitsEnd_4 ?_
      have hPc := hP.sub (ws' := (iU cI 20 (o 1) (r 0) (n 0) (z 0) (F 0))) [1, 2] rfl
      refine xk_pure (va_runV (As := []) (rest := [.int (iz k)]) ⟨hx, hb, hml, hown, hts⟩ (x_size l dC dI cI cB cE 20 (o 1) (r 0) (n 0) (z 0) (F 0)  s.heap.size ) (cwV 0 hts (kx_gV kq_16_xentry_23 kq_15_xspan_10 kq_15_xspan_11 kq_13_xints_6 kq_15_xspan_12 rfl) rfl rfl rfl (by decide +kernel) ⟨Nat.le_of_ble_eq_true rfl, Nat.le_of_ble_eq_true rfl⟩) ⟨pPre_blind, va_recv hK hPc (ci := 1) (q0 := 0) rfl rfl, pPre_give hPc hK hG⟩ rfl rfl hl.1 rfl (lv_room (Nat.le_of_ble_eq_true rfl)) dX0_digitsEnd_7 ⟨Nat.le_of_ble_eq_true rfl, Nat.le_of_ble_eq_true rfl⟩) hS (fun z_2 locs hq_1 hS => ?_)
      refine W.eq (g2 := F0 m 10 ls [.int (iz z_2), .int (iz k)]) rfl ?_
      try dsimp only at hq_1
      have hq_1 := hq_1.symm
      subst hq_1
      refine ki_icmp_ge (tgt := 33) hx hb dX0_digitsEnd_10 (by decide) (by omega) (by omega) (by omega) (by omega) (fun c_3 => ?_) (fun c_3 => ?_)
      · skip
        refine lv_iload_n hx hb dX0_digitsEnd_33 rfl (lv_at hl 0 rfl) ?_
        rw [← hQe]
        exact xp_iret (z := k) hx hb hr rfl hlocks rfl hS.2.2 dX0_digitsEnd_34 (by omega)
      · skip
        refine lv_aload_n hx hb dX0_digitsEnd_13 rfl (lv_at hl 1 rfl) ?_
        refine va_get (D := (dC, dI)) (ci := 0) (v := .ref (o 1)) (C := RX0) (T := TX0) (N := 12) hx hb hts kt_X0 hown hK hP 0 rfl rfl 2 (by decide) (kx_word hG kq_16_xentry_4 rfl) (fun _ h9 => h9) rfl dX0_digitsEnd_14 ?_
        refine lv_iload_n hx hb dX0_digitsEnd_17 rfl (lv_at hl 0 rfl) ?_
        have hPc := hP.sub (ws' := (iU cI 20 (o 1) (r 0) (n 0) (z 0) (F 0))) [1, 2] rfl
        refine xk_pure (va_runV (As := [.int (iz k)]) (rest := []) ⟨hx, hb, hml, hown, hts⟩ (x_get l dC dI cI cB cE 20 (o 1) (r 0) (n 0) (z 0) (F 0) k s.heap.size (by omega) (hE.2.1 0) (by omega) (by omega)) (cwV 1 hts (kx_gV kq_16_xentry_24 kq_13_xints_4 kq_13_xints_5 kq_13_xints_6 kq_13_xints_7 rfl) rfl rfl rfl (by decide +kernel) ⟨Nat.le_of_ble_eq_true rfl, Nat.le_of_ble_eq_true rfl⟩) ⟨pPre_blind, va_recv hK hPc (ci := 1) (q0 := 0) rfl rfl, pPre_give hPc hK hG⟩ rfl rfl hl.1 rfl (lv_room (Nat.le_of_ble_eq_true rfl)) dX0_digitsEnd_18 ⟨Nat.le_of_ble_eq_true rfl, Nat.le_of_ble_eq_true rfl⟩) hS (fun z_5 locs hq_4 hS => ?_)
        refine W.eq (g2 := F0 m 21 ls [.int (iz z_5)]) rfl ?_
        try dsimp only at hq_4
        have hPc : va_P (dC, dI) kxCl [] s.heap := fun k q h => by simp at h
        refine xk_pure (va_runS (As := [.int (iz z_5)]) (rest := []) ⟨hx, hb, hml, hown, hts⟩ (x_isDigit l dC dI cI cB cE z_5 s.heap.size (by omega) (by omega)) (va_cwS 1 hts (kx_gS kq_16_xentry_29 kq_16_xentry_30 kq_16_xentry_2 kq_16_xentry_31 rfl) rfl rfl rfl (by decide +kernel) ⟨Nat.le_of_ble_eq_true rfl, Nat.le_of_ble_eq_true rfl⟩) ⟨pPre_blind, pPre_give hPc hK hG⟩ rfl rfl hl.1 rfl (lv_room (Nat.le_of_ble_eq_true rfl)) dX0_digitsEnd_21 ⟨Nat.le_of_ble_eq_true rfl, Nat.le_of_ble_eq_true rfl⟩) hS (fun z_7 locs hq_6 hS => ?_)
        refine W.eq (g2 := F0 m 24 ls [.int (iz z_7)]) rfl ?_
        try dsimp only at hq_6
        rcases hq_6 with ⟨rfl, hq_6⟩ | ⟨rfl, hq_6⟩
        · skip
          refine ki_if_eq (tgt := 33) hx hb dX0_digitsEnd_24 (by decide) (by omega) (by omega) (fun c_8 => ?_) (fun c_8 => ?_)
          · omega
          · skip
            refine lv_iinc (v := iz (k + 1)) (lv' := [(2, .int (iz (k + 1))), (0, .ref (o 0)), (1, .int (iz p0))]) hx hb dX0_digitsEnd_27 hl (k := 0) rfl (iz_add k 1) (by decide) rfl (fun ls hl => ?_)
            refine lv_goto (tgt := 2) hx hb dX0_digitsEnd_30 (by decide) ?_
            exact ih2 (k + 1) (by omega) (by omega) _ hS ls (lv_sub hl [0, 1, 2] rfl)
        · skip
          refine ki_if_eq (tgt := 33) hx hb dX0_digitsEnd_24 (by decide) (by omega) (by omega) (fun c_9 => ?_) (fun c_9 => ?_)
          · skip
            refine lv_iload_n hx hb dX0_digitsEnd_33 rfl (lv_at hl 0 rfl) ?_
            rw [← hQe]
            exact xp_iret (z := k) hx hb hr rfl hlocks rfl hS.2.2 dX0_digitsEnd_34 (by omega)
          · omega
  exact lp2 _ p0 (by omega) (Nat.lt_succ_self _) _ hS ls (lv_sub hl [0, 1, 2] rfl)
set_option maxHeartbeats 4000000 in
set_option maxRecDepth 100000 in
theorem x_addNumber (l : Launch) (dC : Nat → ClassId) (dI : Nat → Nat → Nat) (cI cB cE : ClassId) (o : Nat → Nat) (r : Nat → Nat) (n : Nat → Nat) (z : Nat → Int) (F : Nat → Int → Int) (p0 : Int) (p1 : Int) (sz : Nat) (hE : eOk n z F) (h0 : 0 ≤ p0 ∧ p0 ≤ 100) (h1 : 0 ≤ p1 ∧ p1 ≤ 100) (hp01 : -2147483648 ≤ p0) (hp02 : p0 < 2147483648) (hp11 : -2147483648 ≤ p1) (hp12 : p1 < 2147483648) : Met l yX0_addNumber [.code yX0_addNumber cX0_addNumber 5 none] ({ frames := 3, cells := 10, slots := 1720, locals := 103 }) (va_Pc [.ref (o 0), .int (iz p0), .int (iz p1)] (kx_Pre dC dI (eU cI o r n z F) (xT cI cB cE) sz)) (xQ (fun _ : Nat × Nat × Int × (Int → Int) => none) (fun (u : Nat × Nat × Int × (Int → Int)) (dn dm : Nat) => match u with | (r2', n2', z2', F2') => ((0 ≤ z2' ∧ z2' ≤ (n2' : Int) ∧ (n2' : Int) ≤ 40) ∧ iB F2') ∧ (dn + psg 40 n2' ≤ psg 40 (n 2) ∧ dm + psj 40 n2' ≤ psj 40 (n 2))) (fun u t => kx_At dC dI (va_A (eU cI o r n z F) sz) ((fun u : Nat × Nat × Int × (Int → Int) => match u with | (r2', n2', z2', F2') => (eU cI o (va_up r 2 r2') (va_up n 2 n2') (va_up z 2 z2') (va_up F 2 F2'))) u) (xT cI cB cE) t) (va_A (eU cI o r n z F) sz)) 10 1720 (va_A (eU cI o r n z F) sz) := by
  refine Met.ofW (cc := cX0_addNumber) (maxL := 5) (ret := none) (by decide) rfl ?_
  intro p e s m args below meth c s₁ B hml hv
  obtain ⟨rfl, hsz, hP, hK, hD0, hG, hZ⟩ := hv
  have hx := B.exec
  have hb := B.bytes
  have hr := B.returns
  have hts := kx_hts (a := ([.ref (o 0), .int (iz p0), .int (iz p1)] : List Value).toArray) hG
  have hown : s.vm.findClass RX0 = some m.cls := findClass_of_methodNamed B.named
  have hlocks := B.notSynchronized
  subst hsz
  have hD := hD0.self (sz := s.heap.size)
  generalize hAe : va_A (eU cI o r n z F) s.heap.size = A at hD hZ ⊢
  have hA : ∀ q : Nat, s.heap.size ≤ q → A q := fun q h => by rw [← hAe]; exact Or.inr h
  have hS : va_S A s.heap s.heap [] := va_S.rf
  have hl := lv_entry ([.ref (o 0), .int (iz p0), .int (iz p1)]) (n := 5) (Nat.le_of_ble_eq_true rfl)
  rw [lg_entry_eq]
  generalize (lg_sl ([.ref (o 0), .int (iz p0), .int (iz p1)]) ++ List.replicate (5 - (lg_sl ([.ref (o 0), .int (iz p0), .int (iz p1)])).length) Slot.unset).toArray = ls at hl ⊢
  have hl : lv_has ls 5 [(0, .ref (o 0)), (1, .int (iz p0)), (2, .int (iz p1))] := hl
  generalize hQe : MQ below (xQ (fun _ : Nat × Nat × Int × (Int → Int) => none) (fun (u : Nat × Nat × Int × (Int → Int)) (dn dm : Nat) => match u with | (r2', n2', z2', F2') => ((0 ≤ z2' ∧ z2' ≤ (n2' : Int) ∧ (n2' : Int) ≤ 40) ∧ iB F2') ∧ (dn + psg 40 n2' ≤ psg 40 (n 2) ∧ dm + psj 40 n2' ≤ psj 40 (n 2))) (fun u t => kx_At dC dI A ((fun u : Nat × Nat × Int × (Int → Int) => match u with | (r2', n2', z2', F2') => (eU cI o (va_up r 2 r2') (va_up n 2 n2') (va_up z 2 z2') (va_up F 2 F2'))) u) (xT cI cB cE) t) A) ([.ref (o 0), .int (iz p0), .int (iz p1)] : List Value).toArray s 10 1720 A = QQ
  have he0 : 0 ≤ z 0 ∧ z 0 ≤ (n 0 : Int) ∧ (n 0 : Int) ≤ 20 := hE.1 0 (by decide)
  have he1 : 0 ≤ z 1 ∧ z 1 ≤ (n 1 : Int) ∧ (n 1 : Int) ≤ 20 := hE.1 1 (by decide)
  have he2 : 0 ≤ z 2 ∧ z 2 ≤ (n 2 : Int) ∧ (n 2 : Int) ≤ 40 := hE.1 2 (by decide)
  have he3 : 0 ≤ z 3 ∧ z 3 ≤ (n 3 : Int) ∧ (n 3 : Int) ≤ 5 := hE.1 3 (by decide)
  have he4 : 0 ≤ z 4 ∧ z 4 ≤ (n 4 : Int) ∧ (n 4 : Int) ≤ 20 := hE.1 4 (by decide)
  have he5 : 0 ≤ z 5 ∧ z 5 ≤ (n 5 : Int) ∧ (n 5 : Int) ≤ 20 := hE.1 5 (by decide)
  have he6 : 0 ≤ z 6 ∧ z 6 ≤ (n 6 : Int) ∧ (n 6 : Int) ≤ 20 := hE.1 6 (by decide)
  have hbz7 := hE.2.2 7
  have hbz8 := hE.2.2 8
  have hbz9 := hE.2.2 9
  have hbz10 := hE.2.2 10
  have hbz11 := hE.2.2 11
  have hbz12 := hE.2.2 12
  have hbz13 := hE.2.2 13
  have hpa := psg_le 40 (n 2)
  have hpb := psj_le (L := 40) (by omega) (n 2)
  refine lv_iload_n hx hb dX0_addNumber_0 rfl (lv_at hl 1 rfl) ?_
  refine lv_istore_n (lv' := [(3, .int (iz p0)), (0, .ref (o 0)), (1, .int (iz p0)), (2, .int (iz p1))]) hx hb dX0_addNumber_1 rfl hl (by decide) rfl (fun ls hl => ?_)
  have lp2 : ∀ (n0 : Nat) (j : Int), ((0 ≤ j ∧ j ≤ 101)) → (p1 - j).toNat < n0 → ∀ (H : Heap) (locs : List Loc), va_P (dC, dI) kxCl (eU cI o r n z F) H → va_D A (eU cI o r n z F) → va_S A s.heap H locs → ∀ ls : Array Slot, lv_has ls 5 [(3, .int (iz j)), (0, .ref (o 0)), (1, .int (iz p0)), (2, .int (iz p1))] → W p l e (headSpec [.code yX0_addNumber cX0_addNumber 5 none] ({ frames := 3, cells := 10, slots := 1720, locals := 103 })).room s m ([.ref (o 0), .int (iz p0), .int (iz p1)] : List Value).toArray below meth c H locs 0 0 QQ (F0 m 2 ls []) := by
    intro n0
    induction n0 with
    | zero => intro j hinv hm0; exact absurd hm0 (Nat.not_lt_zero _)
    | succ n0 ih2 =>
      intro j hinv hm0 H locs hP hD hS ls hl
      have hj := hinv
      refine lv_iload_n hx hb dX0_addNumber_2 rfl (lv_at hl 0 rfl) ?_
      refine lv_iload_n hx hb dX0_addNumber_3 rfl (lv_at hl 3 rfl) ?_
      refine ki_icmp_ge (tgt := 26) hx hb dX0_addNumber_4 (by decide) (by omega) (by omega) (by omega) (by omega) (fun c_1 => ?_) (fun c_1 => ?_)
      · skip
        refine lv_aload_n hx hb dX0_addNumber_26 rfl (lv_at hl 1 rfl) ?_
        refine va_get (D := (dC, dI)) (ci := 0) (v := .ref (o 3)) (C := RX0) (T := TX0) (N := 12) hx hb hts kt_X0 hown hK hP 0 rfl rfl 4 (by decide) (kx_word hG kq_16_xentry_22 rfl) (fun _ h9 => h9) rfl dX0_addNumber_27 ?_
        refine lv_iconst (v := iz 2) hx hb dX0_addNumber_30 (by decide) ?_
        refine lv_iload_n hx hb dX0_addNumber_31 rfl (lv_at hl 3 rfl) ?_
        refine ki_iadd hx hb dX0_addNumber_32 ?_
        refine lv_iload_n hx hb dX0_addNumber_33 rfl (lv_at hl 0 rfl) ?_
        refine ki_isub hx hb dX0_addNumber_34 ?_
        have hPc := hP.sub (ws' := (iU cI 40 (o 3) (r 2) (n 2) (z 2) (F 2))) [5, 6] rfl
        have hDc := hD.sub (ws' := (iU cI 40 (o 3) (r 2) (n 2) (z 2) (F 2))) [5, 6] (by decide) rfl
        have hFc := va_free (wc := (iU cI 40 (o 3) (r 2) (n 2) (z 2) (F 2))) hD hS hA [5, 6] rfl
        refine xk_call (va_runV (As := [.int (iz ((2 + p1) - j))]) (rest := []) ⟨hx, hb, hml, hown, hts⟩ (x_add l dC dI cI cB cE 40 (o 3) (r 2) (n 2) (z 2) (F 2) ((2 + p1) - j) H.size (by omega) (hE.2.1 2) (by omega) (by omega)) (cwV 1 hts (kx_gV kq_16_xentry_5 kq_15_xspan_46 kq_15_xspan_47 kq_13_xints_6 kq_15_xspan_48 rfl) rfl rfl rfl (by decide +kernel) ⟨Nat.le_of_ble_eq_true rfl, Nat.le_of_ble_eq_true rfl⟩) ⟨kx_blind, va_recv hK hPc (ci := 1) (q0 := 0) rfl rfl, kx_give (ws := []) (tys := []) hPc hDc hK hG hZ hS hFc⟩ rfl rfl hl.1 rfl (lv_room (Nat.le_of_ble_eq_true rfl)) dX0_addNumber_35 ⟨show 0 + 1 ≤ 10 from (by omega), show 0 + 1600 ≤ 1720 from (by omega)⟩) hS (fun q _ h => hFc q h) hFc (fun u dn_3 dm_4 t H locs ht hvm hq_2 hB hk1 hS => ?_)
        obtain ⟨r_5, n_6, z_7, F_8⟩ := u
        obtain ⟨hP1, hK1, hD1⟩ := hB
        rw [ht] at hP1
        obtain ⟨hP, hD⟩ := xj (wr := [(o 0, .inr (0, [.int (iz (z 7)), .int (iz (z 8)), .ref (o 1), .ref (o 2), .ref (o 3), .ref (o 5), .ref (o 4), .int (iz (z 9)), .int (iz (z 10)), .int (iz (z 11)), .int (iz (z 12)), .int (iz (z 13))])), (o 1, .inr (1, [.int (iz 20), .ref (r 0), .int (iz (z 0))])), (r 0, .inl (cI, n 0, .inl (iA (F 0)))), (o 2, .inr (1, [.int (iz 20), .ref (r 1), .int (iz (z 1))])), (r 1, .inl (cI, n 1, .inl (iA (F 1)))), (o 4, .inr (1, [.int (iz 5), .ref (r 3), .int (iz (z 3))])), (r 3, .inl (cI, n 3, .inl (iA (F 3)))), (o 5, .inr (3, [.ref (o 6), .ref (o 7), .ref (o 8)])), (o 6, .inr (1, [.int (iz 20), .ref (r 4), .int (iz (z 4))])), (r 4, .inl (cI, n 4, .inl (iA (F 4)))), (o 7, .inr (1, [.int (iz 20), .ref (r 5), .int (iz (z 5))])), (r 5, .inl (cI, n 5, .inl (iA (F 5)))), (o 8, .inr (1, [.int (iz 20), .ref (r 6), .int (iz (z 6))])), (r 6, .inl (cI, n 6, .inl (iA (F 6))))]) (w1 := (iU cI 40 (o 3) r_5 n_6 z_7 F_8)) (ws' := (eU cI o (va_up r 2 r_5) (va_up n 2 n_6) (va_up z 2 z_7) (va_up F 2 F_8))) hP hD [5, 6] [0, 1, 2, 3, 4, 7, 8, 9, 10, 11, 12, 13, 14, 15] [0, 1, 2, 3, 4, 14, 15, 5, 6, 7, 8, 9, 10, 11, 12, 13] rfl rfl (by decide) (by decide) hk1 hFc hP1 hD1 rfl (by decide)
        refine W.eq (g2 := F0 m 38 ls []) rfl ?_
        try dsimp only at hq_2
        obtain ⟨ha9, hb9, hc9, hd9⟩ := hq_2
        refine lv_iload_n hx hb dX0_addNumber_38 rfl (lv_at hl 0 rfl) ?_
        refine lv_istore (lv' := [(4, .int (iz j)), (3, .int (iz j)), (0, .ref (o 0)), (1, .int (iz p0)), (2, .int (iz p1))]) hx hb dX0_addNumber_39 hl (by decide) rfl (fun ls hl => ?_)
        have lp41 : ∀ (n0 : Nat) (k : Int) (rv : Nat) (nv : Nat) (zv : Int) (Fv : Int → Int) (cv : Nat) (sv : Nat), ((0 ≤ k ∧ k ≤ 101) ∧ (0 ≤ zv ∧ zv ≤ (nv : Int) ∧ (nv : Int) ≤ 40) ∧ (iB Fv) ∧ (cv + psg 40 nv ≤ psg 40 (n 2) ∧ sv + psj 40 nv ≤ psj 40 (n 2))) → (p1 - k).toNat < n0 → ∀ (H : Heap) (locs : List Loc), va_P (dC, dI) kxCl (eU cI o (va_up r 2 rv) (va_up n 2 nv) (va_up z 2 zv) (va_up F 2 Fv)) H → va_D A (eU cI o (va_up r 2 rv) (va_up n 2 nv) (va_up z 2 zv) (va_up F 2 Fv)) → va_S A s.heap H locs → ∀ ls : Array Slot, lv_has ls 5 [(4, .int (iz k)), (3, .int (iz j)), (0, .ref (o 0)), (1, .int (iz p0)), (2, .int (iz p1))] → W p l e (headSpec [.code yX0_addNumber cX0_addNumber 5 none] ({ frames := 3, cells := 10, slots := 1720, locals := 103 })).room s m ([.ref (o 0), .int (iz p0), .int (iz p1)] : List Value).toArray below meth c H locs cv sv QQ (F0 m 41 ls []) := by
          intro n0
          induction n0 with
          | zero => intro k rv nv zv Fv cv sv hinv hm0; exact absurd hm0 (Nat.not_lt_zero _)
          | succ n0 ih41 =>
            intro k rv nv zv Fv cv sv hinv hm0 H locs hP hD hS ls hl
            obtain ⟨hk, hv, hFv, hcv⟩ := hinv
            refine lv_iload hx hb dX0_addNumber_41 (lv_at hl 0 rfl) ?_
            refine lv_iload_n hx hb dX0_addNumber_43 rfl (lv_at hl 4 rfl) ?_
            refine ki_icmp_ge (tgt := 69) hx hb dX0_addNumber_44 (by decide) (by omega) (by omega) (by omega) (by omega) (fun c_10 => ?_) (fun c_10 => ?_)
            · skip
              rw [← hQe]
              exact xk_vret (ov := (fun _ : Nat × Nat × Int × (Int → Int) => none)) (post := (fun (u : Nat × Nat × Int × (Int → Int)) (dn dm : Nat) => match u with | (r2', n2', z2', F2') => ((0 ≤ z2' ∧ z2' ≤ (n2' : Int) ∧ (n2' : Int) ≤ 40) ∧ iB F2') ∧ (dn + psg 40 n2' ≤ psg 40 (n 2) ∧ dm + psj 40 n2' ≤ psj 40 (n 2)))) (ws := (fun u : Nat × Nat × Int × (Int → Int) => match u with | (r2', n2', z2', F2') => (eU cI o (va_up r 2 r2') (va_up n 2 n2') (va_up z 2 z2') (va_up F 2 F2')))) (tys := xT cI cB cE) (rv, nv, zv, Fv) hx hb hr hlocks rfl hP hD hK hS dX0_addNumber_69 (fun dn dm hdn hdm => ⟨⟨by omega, hFv⟩, by omega⟩) (by omega) (by omega)
            · skip
              refine lv_aload_n hx hb dX0_addNumber_47 rfl (lv_at hl 2 rfl) ?_
              refine va_get (D := (dC, dI)) (ci := 0) (v := .ref (o 3)) (C := RX0) (T := TX0) (N := 12) hx hb hts kt_X0 hown hK hP 0 rfl rfl 4 (by decide) (kx_word hG kq_16_xentry_22 rfl) (fun _ h9 => h9) rfl dX0_addNumber_48 ?_
              refine lv_aload_n hx hb dX0_addNumber_51 rfl (lv_at hl 2 rfl) ?_
              refine va_get (D := (dC, dI)) (ci := 0) (v := .ref (o 1)) (C := RX0) (T := TX0) (N := 12) hx hb hts kt_X0 hown hK hP 0 rfl rfl 2 (by decide) (kx_word hG kq_16_xentry_4 rfl) (fun _ h9 => h9) rfl dX0_addNumber_52 ?_
              refine lv_iload hx hb dX0_addNumber_55 (lv_at hl 0 rfl) ?_
              have hPc := hP.sub (ws' := (iU cI 20 (o 1) (r 0) (n 0) (z 0) (F 0))) [1, 2] rfl
              refine xk_pure (va_runV (As := [.int (iz k)]) (rest := [.ref (o 3)]) ⟨hx, hb, hml, hown, hts⟩ (x_get l dC dI cI cB cE 20 (o 1) (r 0) (n 0) (z 0) (F 0) k H.size (by omega) (hE.2.1 0) (by omega) (by omega)) (cwV 1 hts (kx_gV kq_16_xentry_24 kq_13_xints_4 kq_13_xints_5 kq_13_xints_6 kq_13_xints_7 rfl) rfl rfl rfl (by decide +kernel) ⟨Nat.le_of_ble_eq_true rfl, Nat.le_of_ble_eq_true rfl⟩) ⟨pPre_blind, va_recv hK hPc (ci := 1) (q0 := 0) rfl rfl, pPre_give hPc hK hG⟩ rfl rfl hl.1 rfl (lv_room (Nat.le_of_ble_eq_true rfl)) dX0_addNumber_57 ⟨show cv + 0 ≤ 10 from (by omega), show sv + 0 ≤ 1720 from (by omega)⟩) hS (fun z_12 locs hq_11 hS => ?_)
              refine W.eq (g2 := F0 m 60 ls [.int (iz z_12), .ref (o 3)]) rfl ?_
              try dsimp only at hq_11
              have hPc := hP.sub (ws' := (iU cI 40 (o 3) rv nv zv Fv)) [5, 6] rfl
              have hDc := hD.sub (ws' := (iU cI 40 (o 3) rv nv zv Fv)) [5, 6] (by decide) rfl
              have hFc := va_free (wc := (iU cI 40 (o 3) rv nv zv Fv)) hD hS hA [5, 6] rfl
              refine xk_call (va_runV (As := [.int (iz z_12)]) (rest := []) ⟨hx, hb, hml, hown, hts⟩ (x_add l dC dI cI cB cE 40 (o 3) rv nv zv Fv z_12 H.size (by omega) hFv (by omega) (by omega)) (cwV 1 hts (kx_gV kq_16_xentry_5 kq_15_xspan_46 kq_15_xspan_47 kq_13_xints_6 kq_15_xspan_48 rfl) rfl rfl rfl (by decide +kernel) ⟨Nat.le_of_ble_eq_true rfl, Nat.le_of_ble_eq_true rfl⟩) ⟨kx_blind, va_recv hK hPc (ci := 1) (q0 := 0) rfl rfl, kx_give (ws := []) (tys := []) hPc hDc hK hG hZ hS hFc⟩ rfl rfl hl.1 rfl (lv_room (Nat.le_of_ble_eq_true rfl)) dX0_addNumber_60 ⟨show cv + 1 ≤ 10 from (by omega), show sv + 1600 ≤ 1720 from (by omega)⟩) hS (fun q _ h => hFc q h) hFc (fun u dn_14 dm_15 t H locs ht hvm hq_13 hB hk1 hS => ?_)
              obtain ⟨r_16, n_17, z_18, F_19⟩ := u
              obtain ⟨hP1, hK1, hD1⟩ := hB
              rw [ht] at hP1
              obtain ⟨hP, hD⟩ := xj (wr := [(o 0, .inr (0, [.int (iz (z 7)), .int (iz (z 8)), .ref (o 1), .ref (o 2), .ref (o 3), .ref (o 5), .ref (o 4), .int (iz (z 9)), .int (iz (z 10)), .int (iz (z 11)), .int (iz (z 12)), .int (iz (z 13))])), (o 1, .inr (1, [.int (iz 20), .ref (r 0), .int (iz (z 0))])), (r 0, .inl (cI, n 0, .inl (iA (F 0)))), (o 2, .inr (1, [.int (iz 20), .ref (r 1), .int (iz (z 1))])), (r 1, .inl (cI, n 1, .inl (iA (F 1)))), (o 4, .inr (1, [.int (iz 5), .ref (r 3), .int (iz (z 3))])), (r 3, .inl (cI, n 3, .inl (iA (F 3)))), (o 5, .inr (3, [.ref (o 6), .ref (o 7), .ref (o 8)])), (o 6, .inr (1, [.int (iz 20), .ref (r 4), .int (iz (z 4))])), (r 4, .inl (cI, n 4, .inl (iA (F 4)))), (o 7, .inr (1, [.int (iz 20), .ref (r 5), .int (iz (z 5))])), (r 5, .inl (cI, n 5, .inl (iA (F 5)))), (o 8, .inr (1, [.int (iz 20), .ref (r 6), .int (iz (z 6))])), (r 6, .inl (cI, n 6, .inl (iA (F 6))))]) (w1 := (iU cI 40 (o 3) r_16 n_17 z_18 F_19)) (ws' := (eU cI o (va_up r 2 r_16) (va_up n 2 n_17) (va_up z 2 z_18) (va_up F 2 F_19))) hP hD [5, 6] [0, 1, 2, 3, 4, 7, 8, 9, 10, 11, 12, 13, 14, 15] [0, 1, 2, 3, 4, 14, 15, 5, 6, 7, 8, 9, 10, 11, 12, 13] rfl rfl (by decide) (by decide) hk1 hFc hP1 hD1 rfl (by decide)
              refine W.eq (g2 := F0 m 63 ls []) rfl ?_
              try dsimp only at hq_13
              obtain ⟨ha20, hb20, hc20, hd20⟩ := hq_13
              refine lv_iinc (v := iz (k + 1)) (lv' := [(4, .int (iz (k + 1))), (3, .int (iz j)), (0, .ref (o 0)), (1, .int (iz p0)), (2, .int (iz p1))]) hx hb dX0_addNumber_63 hl (k := 0) rfl (iz_add k 1) (by decide) rfl (fun ls hl => ?_)
              refine lv_goto (tgt := 41) hx hb dX0_addNumber_66 (by decide) ?_
              exact ih41 (k + 1) r_16 n_17 z_18 F_19 (cv + dn_14) (sv + dm_15) ⟨by omega, by omega, hb20, by omega⟩ (by omega) _ _ hP hD hS ls (lv_sub hl [0, 1, 2, 3, 4] rfl)
        exact lp41 _ j r_5 n_6 z_7 F_8 (0 + dn_3) (0 + dm_4) ⟨by omega, by omega, hb9, by omega⟩ (Nat.lt_succ_self _) _ _ hP hD hS ls (lv_sub hl [0, 1, 2, 3, 4] rfl)
      · skip
        refine lv_aload_n hx hb dX0_addNumber_7 rfl (lv_at hl 1 rfl) ?_
        refine va_get (D := (dC, dI)) (ci := 0) (v := .ref (o 1)) (C := RX0) (T := TX0) (N := 12) hx hb hts kt_X0 hown hK hP 0 rfl rfl 2 (by decide) (kx_word hG kq_16_xentry_4 rfl) (fun _ h9 => h9) rfl dX0_addNumber_8 ?_
        refine lv_iload_n hx hb dX0_addNumber_11 rfl (lv_at hl 0 rfl) ?_
        have hPc := hP.sub (ws' := (iU cI 20 (o 1) (r 0) (n 0) (z 0) (F 0))) [1, 2] rfl
        refine xk_pure (va_runV (As := [.int (iz j)]) (rest := []) ⟨hx, hb, hml, hown, hts⟩ (x_get l dC dI cI cB cE 20 (o 1) (r 0) (n 0) (z 0) (F 0) j H.size (by omega) (hE.2.1 0) (by omega) (by omega)) (cwV 1 hts (kx_gV kq_16_xentry_24 kq_13_xints_4 kq_13_xints_5 kq_13_xints_6 kq_13_xints_7 rfl) rfl rfl rfl (by decide +kernel) ⟨Nat.le_of_ble_eq_true rfl, Nat.le_of_ble_eq_true rfl⟩) ⟨pPre_blind, va_recv hK hPc (ci := 1) (q0 := 0) rfl rfl, pPre_give hPc hK hG⟩ rfl rfl hl.1 rfl (lv_room (Nat.le_of_ble_eq_true rfl)) dX0_addNumber_12 ⟨show 0 + 0 ≤ 10 from (by omega), show 0 + 0 ≤ 1720 from (by omega)⟩) hS (fun z_22 locs hq_21 hS => ?_)
        refine W.eq (g2 := F0 m 15 ls [.int (iz z_22)]) rfl ?_
        try dsimp only at hq_21
        refine lv_bipush (v := iz 48) hx hb dX0_addNumber_15 (by decide) ?_
        refine ki_icmp_ne (tgt := 26) hx hb dX0_addNumber_17 (by decide) (by omega) (by omega) (by omega) (by omega) (fun c_23 => ?_) (fun c_23 => ?_)
        · skip
          refine lv_aload_n hx hb dX0_addNumber_26 rfl (lv_at hl 1 rfl) ?_
          refine va_get (D := (dC, dI)) (ci := 0) (v := .ref (o 3)) (C := RX0) (T := TX0) (N := 12) hx hb hts kt_X0 hown hK hP 0 rfl rfl 4 (by decide) (kx_word hG kq_16_xentry_22 rfl) (fun _ h9 => h9) rfl dX0_addNumber_27 ?_
          refine lv_iconst (v := iz 2) hx hb dX0_addNumber_30 (by decide) ?_
          refine lv_iload_n hx hb dX0_addNumber_31 rfl (lv_at hl 3 rfl) ?_
          refine ki_iadd hx hb dX0_addNumber_32 ?_
          refine lv_iload_n hx hb dX0_addNumber_33 rfl (lv_at hl 0 rfl) ?_
          refine ki_isub hx hb dX0_addNumber_34 ?_
          have hPc := hP.sub (ws' := (iU cI 40 (o 3) (r 2) (n 2) (z 2) (F 2))) [5, 6] rfl
          have hDc := hD.sub (ws' := (iU cI 40 (o 3) (r 2) (n 2) (z 2) (F 2))) [5, 6] (by decide) rfl
          have hFc := va_free (wc := (iU cI 40 (o 3) (r 2) (n 2) (z 2) (F 2))) hD hS hA [5, 6] rfl
          refine xk_call (va_runV (As := [.int (iz ((2 + p1) - j))]) (rest := []) ⟨hx, hb, hml, hown, hts⟩ (x_add l dC dI cI cB cE 40 (o 3) (r 2) (n 2) (z 2) (F 2) ((2 + p1) - j) H.size (by omega) (hE.2.1 2) (by omega) (by omega)) (cwV 1 hts (kx_gV kq_16_xentry_5 kq_15_xspan_46 kq_15_xspan_47 kq_13_xints_6 kq_15_xspan_48 rfl) rfl rfl rfl (by decide +kernel) ⟨Nat.le_of_ble_eq_true rfl, Nat.le_of_ble_eq_true rfl⟩) ⟨kx_blind, va_recv hK hPc (ci := 1) (q0 := 0) rfl rfl, kx_give (ws := []) (tys := []) hPc hDc hK hG hZ hS hFc⟩ rfl rfl hl.1 rfl (lv_room (Nat.le_of_ble_eq_true rfl)) dX0_addNumber_35 ⟨show 0 + 1 ≤ 10 from (by omega), show 0 + 1600 ≤ 1720 from (by omega)⟩) hS (fun q _ h => hFc q h) hFc (fun u dn_25 dm_26 t H locs ht hvm hq_24 hB hk1 hS => ?_)
          obtain ⟨r_27, n_28, z_29, F_30⟩ := u
          obtain ⟨hP1, hK1, hD1⟩ := hB
          rw [ht] at hP1
          obtain ⟨hP, hD⟩ := xj (wr := [(o 0, .inr (0, [.int (iz (z 7)), .int (iz (z 8)), .ref (o 1), .ref (o 2), .ref (o 3), .ref (o 5), .ref (o 4), .int (iz (z 9)), .int (iz (z 10)), .int (iz (z 11)), .int (iz (z 12)), .int (iz (z 13))])), (o 1, .inr (1, [.int (iz 20), .ref (r 0), .int (iz (z 0))])), (r 0, .inl (cI, n 0, .inl (iA (F 0)))), (o 2, .inr (1, [.int (iz 20), .ref (r 1), .int (iz (z 1))])), (r 1, .inl (cI, n 1, .inl (iA (F 1)))), (o 4, .inr (1, [.int (iz 5), .ref (r 3), .int (iz (z 3))])), (r 3, .inl (cI, n 3, .inl (iA (F 3)))), (o 5, .inr (3, [.ref (o 6), .ref (o 7), .ref (o 8)])), (o 6, .inr (1, [.int (iz 20), .ref (r 4), .int (iz (z 4))])), (r 4, .inl (cI, n 4, .inl (iA (F 4)))), (o 7, .inr (1, [.int (iz 20), .ref (r 5), .int (iz (z 5))])), (r 5, .inl (cI, n 5, .inl (iA (F 5)))), (o 8, .inr (1, [.int (iz 20), .ref (r 6), .int (iz (z 6))])), (r 6, .inl (cI, n 6, .inl (iA (F 6))))]) (w1 := (iU cI 40 (o 3) r_27 n_28 z_29 F_30)) (ws' := (eU cI o (va_up r 2 r_27) (va_up n 2 n_28) (va_up z 2 z_29) (va_up F 2 F_30))) hP hD [5, 6] [0, 1, 2, 3, 4, 7, 8, 9, 10, 11, 12, 13, 14, 15] [0, 1, 2, 3, 4, 14, 15, 5, 6, 7, 8, 9, 10, 11, 12, 13] rfl rfl (by decide) (by decide) hk1 hFc hP1 hD1 rfl (by decide)
          refine W.eq (g2 := F0 m 38 ls []) rfl ?_
          try dsimp only at hq_24
          obtain ⟨ha31, hb31, hc31, hd31⟩ := hq_24
          refine lv_iload_n hx hb dX0_addNumber_38 rfl (lv_at hl 0 rfl) ?_
          refine lv_istore (lv' := [(4, .int (iz j)), (3, .int (iz j)), (0, .ref (o 0)), (1, .int (iz p0)), (2, .int (iz p1))]) hx hb dX0_addNumber_39 hl (by decide) rfl (fun ls hl => ?_)
          have lp41 : ∀ (n0 : Nat) (k : Int) (rv : Nat) (nv : Nat) (zv : Int) (Fv : Int → Int) (cv : Nat) (sv : Nat), ((0 ≤ k ∧ k ≤ 101) ∧ (0 ≤ zv ∧ zv ≤ (nv : Int) ∧ (nv : Int) ≤ 40) ∧ (iB Fv) ∧ (cv + psg 40 nv ≤ psg 40 (n 2) ∧ sv + psj 40 nv ≤ psj 40 (n 2))) → (p1 - k).toNat < n0 → ∀ (H : Heap) (locs : List Loc), va_P (dC, dI) kxCl (eU cI o (va_up r 2 rv) (va_up n 2 nv) (va_up z 2 zv) (va_up F 2 Fv)) H → va_D A (eU cI o (va_up r 2 rv) (va_up n 2 nv) (va_up z 2 zv) (va_up F 2 Fv)) → va_S A s.heap H locs → ∀ ls : Array Slot, lv_has ls 5 [(4, .int (iz k)), (3, .int (iz j)), (0, .ref (o 0)), (1, .int (iz p0)), (2, .int (iz p1))] → W p l e (headSpec [.code yX0_addNumber cX0_addNumber 5 none] ({ frames := 3, cells := 10, slots := 1720, locals := 103 })).room s m ([.ref (o 0), .int (iz p0), .int (iz p1)] : List Value).toArray below meth c H locs cv sv QQ (F0 m 41 ls []) := by
            intro n0
            induction n0 with
            | zero => intro k rv nv zv Fv cv sv hinv hm0; exact absurd hm0 (Nat.not_lt_zero _)
            | succ n0 ih41 =>
              intro k rv nv zv Fv cv sv hinv hm0 H locs hP hD hS ls hl
              obtain ⟨hk, hv, hFv, hcv⟩ := hinv
              refine lv_iload hx hb dX0_addNumber_41 (lv_at hl 0 rfl) ?_
              refine lv_iload_n hx hb dX0_addNumber_43 rfl (lv_at hl 4 rfl) ?_
              refine ki_icmp_ge (tgt := 69) hx hb dX0_addNumber_44 (by decide) (by omega) (by omega) (by omega) (by omega) (fun c_32 => ?_) (fun c_32 => ?_)
              · skip
                rw [← hQe]
                exact xk_vret (ov := (fun _ : Nat × Nat × Int × (Int → Int) => none)) (post := (fun (u : Nat × Nat × Int × (Int → Int)) (dn dm : Nat) => match u with | (r2', n2', z2', F2') => ((0 ≤ z2' ∧ z2' ≤ (n2' : Int) ∧ (n2' : Int) ≤ 40) ∧ iB F2') ∧ (dn + psg 40 n2' ≤ psg 40 (n 2) ∧ dm + psj 40 n2' ≤ psj 40 (n 2)))) (ws := (fun u : Nat × Nat × Int × (Int → Int) => match u with | (r2', n2', z2', F2') => (eU cI o (va_up r 2 r2') (va_up n 2 n2') (va_up z 2 z2') (va_up F 2 F2')))) (tys := xT cI cB cE) (rv, nv, zv, Fv) hx hb hr hlocks rfl hP hD hK hS dX0_addNumber_69 (fun dn dm hdn hdm => ⟨⟨by omega, hFv⟩, by omega⟩) (by omega) (by omega)
              · skip
                refine lv_aload_n hx hb dX0_addNumber_47 rfl (lv_at hl 2 rfl) ?_
                refine va_get (D := (dC, dI)) (ci := 0) (v := .ref (o 3)) (C := RX0) (T := TX0) (N := 12) hx hb hts kt_X0 hown hK hP 0 rfl rfl 4 (by decide) (kx_word hG kq_16_xentry_22 rfl) (fun _ h9 => h9) rfl dX0_addNumber_48 ?_
                refine lv_aload_n hx hb dX0_addNumber_51 rfl (lv_at hl 2 rfl) ?_
                refine va_get (D := (dC, dI)) (ci := 0) (v := .ref (o 1)) (C := RX0) (T := TX0) (N := 12) hx hb hts kt_X0 hown hK hP 0 rfl rfl 2 (by decide) (kx_word hG kq_16_xentry_4 rfl) (fun _ h9 => h9) rfl dX0_addNumber_52 ?_
                refine lv_iload hx hb dX0_addNumber_55 (lv_at hl 0 rfl) ?_
                have hPc := hP.sub (ws' := (iU cI 20 (o 1) (r 0) (n 0) (z 0) (F 0))) [1, 2] rfl
                refine xk_pure (va_runV (As := [.int (iz k)]) (rest := [.ref (o 3)]) ⟨hx, hb, hml, hown, hts⟩ (x_get l dC dI cI cB cE 20 (o 1) (r 0) (n 0) (z 0) (F 0) k H.size (by omega) (hE.2.1 0) (by omega) (by omega)) (cwV 1 hts (kx_gV kq_16_xentry_24 kq_13_xints_4 kq_13_xints_5 kq_13_xints_6 kq_13_xints_7 rfl) rfl rfl rfl (by decide +kernel) ⟨Nat.le_of_ble_eq_true rfl, Nat.le_of_ble_eq_true rfl⟩) ⟨pPre_blind, va_recv hK hPc (ci := 1) (q0 := 0) rfl rfl, pPre_give hPc hK hG⟩ rfl rfl hl.1 rfl (lv_room (Nat.le_of_ble_eq_true rfl)) dX0_addNumber_57 ⟨show cv + 0 ≤ 10 from (by omega), show sv + 0 ≤ 1720 from (by omega)⟩) hS (fun z_34 locs hq_33 hS => ?_)
                refine W.eq (g2 := F0 m 60 ls [.int (iz z_34), .ref (o 3)]) rfl ?_
                try dsimp only at hq_33
                have hPc := hP.sub (ws' := (iU cI 40 (o 3) rv nv zv Fv)) [5, 6] rfl
                have hDc := hD.sub (ws' := (iU cI 40 (o 3) rv nv zv Fv)) [5, 6] (by decide) rfl
                have hFc := va_free (wc := (iU cI 40 (o 3) rv nv zv Fv)) hD hS hA [5, 6] rfl
                refine xk_call (va_runV (As := [.int (iz z_34)]) (rest := []) ⟨hx, hb, hml, hown, hts⟩ (x_add l dC dI cI cB cE 40 (o 3) rv nv zv Fv z_34 H.size (by omega) hFv (by omega) (by omega)) (cwV 1 hts (kx_gV kq_16_xentry_5 kq_15_xspan_46 kq_15_xspan_47 kq_13_xints_6 kq_15_xspan_48 rfl) rfl rfl rfl (by decide +kernel) ⟨Nat.le_of_ble_eq_true rfl, Nat.le_of_ble_eq_true rfl⟩) ⟨kx_blind, va_recv hK hPc (ci := 1) (q0 := 0) rfl rfl, kx_give (ws := []) (tys := []) hPc hDc hK hG hZ hS hFc⟩ rfl rfl hl.1 rfl (lv_room (Nat.le_of_ble_eq_true rfl)) dX0_addNumber_60 ⟨show cv + 1 ≤ 10 from (by omega), show sv + 1600 ≤ 1720 from (by omega)⟩) hS (fun q _ h => hFc q h) hFc (fun u dn_36 dm_37 t H locs ht hvm hq_35 hB hk1 hS => ?_)
                obtain ⟨r_38, n_39, z_40, F_41⟩ := u
                obtain ⟨hP1, hK1, hD1⟩ := hB
                rw [ht] at hP1
                obtain ⟨hP, hD⟩ := xj (wr := [(o 0, .inr (0, [.int (iz (z 7)), .int (iz (z 8)), .ref (o 1), .ref (o 2), .ref (o 3), .ref (o 5), .ref (o 4), .int (iz (z 9)), .int (iz (z 10)), .int (iz (z 11)), .int (iz (z 12)), .int (iz (z 13))])), (o 1, .inr (1, [.int (iz 20), .ref (r 0), .int (iz (z 0))])), (r 0, .inl (cI, n 0, .inl (iA (F 0)))), (o 2, .inr (1, [.int (iz 20), .ref (r 1), .int (iz (z 1))])), (r 1, .inl (cI, n 1, .inl (iA (F 1)))), (o 4, .inr (1, [.int (iz 5), .ref (r 3), .int (iz (z 3))])), (r 3, .inl (cI, n 3, .inl (iA (F 3)))), (o 5, .inr (3, [.ref (o 6), .ref (o 7), .ref (o 8)])), (o 6, .inr (1, [.int (iz 20), .ref (r 4), .int (iz (z 4))])), (r 4, .inl (cI, n 4, .inl (iA (F 4)))), (o 7, .inr (1, [.int (iz 20), .ref (r 5), .int (iz (z 5))])), (r 5, .inl (cI, n 5, .inl (iA (F 5)))), (o 8, .inr (1, [.int (iz 20), .ref (r 6), .int (iz (z 6))])), (r 6, .inl (cI, n 6, .inl (iA (F 6))))]) (w1 := (iU cI 40 (o 3) r_38 n_39 z_40 F_41)) (ws' := (eU cI o (va_up r 2 r_38) (va_up n 2 n_39) (va_up z 2 z_40) (va_up F 2 F_41))) hP hD [5, 6] [0, 1, 2, 3, 4, 7, 8, 9, 10, 11, 12, 13, 14, 15] [0, 1, 2, 3, 4, 14, 15, 5, 6, 7, 8, 9, 10, 11, 12, 13] rfl rfl (by decide) (by decide) hk1 hFc hP1 hD1 rfl (by decide)
                refine W.eq (g2 := F0 m 63 ls []) rfl ?_
                try dsimp only at hq_35
                obtain ⟨ha42, hb42, hc42, hd42⟩ := hq_35
                refine lv_iinc (v := iz (k + 1)) (lv' := [(4, .int (iz (k + 1))), (3, .int (iz j)), (0, .ref (o 0)), (1, .int (iz p0)), (2, .int (iz p1))]) hx hb dX0_addNumber_63 hl (k := 0) rfl (iz_add k 1) (by decide) rfl (fun ls hl => ?_)
                refine lv_goto (tgt := 41) hx hb dX0_addNumber_66 (by decide) ?_
                exact ih41 (k + 1) r_38 n_39 z_40 F_41 (cv + dn_36) (sv + dm_37) ⟨by omega, by omega, hb42, by omega⟩ (by omega) _ _ hP hD hS ls (lv_sub hl [0, 1, 2, 3, 4] rfl)
          exact lp41 _ j r_27 n_28 z_29 F_30 (0 + dn_25) (0 + dm_26) ⟨by omega, by omega, hb31, by omega⟩ (Nat.lt_succ_self _) _ _ hP hD hS ls (lv_sub hl [0, 1, 2, 3, 4] rfl)
        · skip
          refine lv_iinc (v := iz (j + 1)) (lv' := [(3, .int (iz (j + 1))), (0, .ref (o 0)), (1, .int (iz p0)), (2, .int (iz p1))]) hx hb dX0_addNumber_20 hl (k := 0) rfl (iz_add j 1) (by decide) rfl (fun ls hl => ?_)
          refine lv_goto (tgt := 2) hx hb dX0_addNumber_23 (by decide) ?_
          exact ih2 (j + 1) (by omega) (by omega) _ _ hP hD hS ls (lv_sub hl [0, 1, 2, 3] rfl)
  exact lp2 _ p0 (by omega) (Nat.lt_succ_self _) _ _ hP hD hS ls (lv_sub hl [0, 1, 2, 3] rfl)
set_option maxHeartbeats 4000000 in
set_option maxRecDepth 100000 in
theorem x_makeKey (l : Launch) (dC : Nat → ClassId) (dI : Nat → Nat → Nat) (cI cB cE : ClassId) (o : Nat → Nat) (r : Nat → Nat) (n : Nat → Nat) (z : Nat → Int) (F : Nat → Int → Int) (p0 : Int) (p1 : Int) (sz : Nat) (hE : eOk n z F) (hp01 : -2147483648 ≤ p0) (hp02 : p0 < 2147483648) (hp11 : -2147483648 ≤ p1) (hp12 : p1 < 2147483648) : Met l yX0_makeKey [.code yX0_makeKey cX0_makeKey 6 none] ({ frames := 4, cells := 20, slots := 3500, locals := 127 }) (va_Pc [.ref (o 0), .int (iz p0), .int (iz p1)] (kx_Pre dC dI (eU cI o r n z F) (xT cI cB cE) sz)) (xQ (fun _ : Nat × Nat × Int × (Int → Int) => none) (fun (u : Nat × Nat × Int × (Int → Int)) (dn dm : Nat) => match u with | (r2', n2', z2', F2') => ((0 ≤ z2' ∧ z2' ≤ (n2' : Int) ∧ (n2' : Int) ≤ 40) ∧ iB F2') ∧ (dn + psg 40 n2' ≤ psg 40 (n 2) ∧ dm + psj 40 n2' ≤ psj 40 (n 2))) (fun u t => kx_At dC dI (va_A (eU cI o r n z F) sz) ((fun u : Nat × Nat × Int × (Int → Int) => match u with | (r2', n2', z2', F2') => (eU cI o (va_up r 2 r2') (va_up n 2 n2') (va_up z 2 z2') (va_up F 2 F2'))) u) (xT cI cB cE) t) (va_A (eU cI o r n z F) sz)) 20 3500 (va_A (eU cI o r n z F) sz) := by
  refine Met.ofW (cc := cX0_makeKey) (maxL := 6) (ret := none) (by decide) rfl ?_
  intro p e s m args below meth c s₁ B hml hv
  obtain ⟨rfl, hsz, hP, hK, hD0, hG, hZ⟩ := hv
  have hx := B.exec
  have hb := B.bytes
  have hr := B.returns
  have hts := kx_hts (a := ([.ref (o 0), .int (iz p0), .int (iz p1)] : List Value).toArray) hG
  have hown : s.vm.findClass RX0 = some m.cls := findClass_of_methodNamed B.named
  have hlocks := B.notSynchronized
  subst hsz
  have hD := hD0.self (sz := s.heap.size)
  generalize hAe : va_A (eU cI o r n z F) s.heap.size = A at hD hZ ⊢
  have hA : ∀ q : Nat, s.heap.size ≤ q → A q := fun q h => by rw [← hAe]; exact Or.inr h
  have hS : va_S A s.heap s.heap [] := va_S.rf
  have hl := lv_entry ([.ref (o 0), .int (iz p0), .int (iz p1)]) (n := 6) (Nat.le_of_ble_eq_true rfl)
  rw [lg_entry_eq]
  generalize (lg_sl ([.ref (o 0), .int (iz p0), .int (iz p1)]) ++ List.replicate (6 - (lg_sl ([.ref (o 0), .int (iz p0), .int (iz p1)])).length) Slot.unset).toArray = ls at hl ⊢
  have hl : lv_has ls 6 [(0, .ref (o 0)), (1, .int (iz p0)), (2, .int (iz p1))] := hl
  generalize hQe : MQ below (xQ (fun _ : Nat × Nat × Int × (Int → Int) => none) (fun (u : Nat × Nat × Int × (Int → Int)) (dn dm : Nat) => match u with | (r2', n2', z2', F2') => ((0 ≤ z2' ∧ z2' ≤ (n2' : Int) ∧ (n2' : Int) ≤ 40) ∧ iB F2') ∧ (dn + psg 40 n2' ≤ psg 40 (n 2) ∧ dm + psj 40 n2' ≤ psj 40 (n 2))) (fun u t => kx_At dC dI A ((fun u : Nat × Nat × Int × (Int → Int) => match u with | (r2', n2', z2', F2') => (eU cI o (va_up r 2 r2') (va_up n 2 n2') (va_up z 2 z2') (va_up F 2 F2'))) u) (xT cI cB cE) t) A) ([.ref (o 0), .int (iz p0), .int (iz p1)] : List Value).toArray s 20 3500 A = QQ
  have he0 : 0 ≤ z 0 ∧ z 0 ≤ (n 0 : Int) ∧ (n 0 : Int) ≤ 20 := hE.1 0 (by decide)
  have he1 : 0 ≤ z 1 ∧ z 1 ≤ (n 1 : Int) ∧ (n 1 : Int) ≤ 20 := hE.1 1 (by decide)
  have he2 : 0 ≤ z 2 ∧ z 2 ≤ (n 2 : Int) ∧ (n 2 : Int) ≤ 40 := hE.1 2 (by decide)
  have he3 : 0 ≤ z 3 ∧ z 3 ≤ (n 3 : Int) ∧ (n 3 : Int) ≤ 5 := hE.1 3 (by decide)
  have he4 : 0 ≤ z 4 ∧ z 4 ≤ (n 4 : Int) ∧ (n 4 : Int) ≤ 20 := hE.1 4 (by decide)
  have he5 : 0 ≤ z 5 ∧ z 5 ≤ (n 5 : Int) ∧ (n 5 : Int) ≤ 20 := hE.1 5 (by decide)
  have he6 : 0 ≤ z 6 ∧ z 6 ≤ (n 6 : Int) ∧ (n 6 : Int) ≤ 20 := hE.1 6 (by decide)
  have hbz7 := hE.2.2 7
  have hbz8 := hE.2.2 8
  have hbz9 := hE.2.2 9
  have hbz10 := hE.2.2 10
  have hbz11 := hE.2.2 11
  have hbz12 := hE.2.2 12
  have hbz13 := hE.2.2 13
  have hpa := psg_le 40 (n 2)
  have hpb := psj_le (L := 40) (by omega) (n 2)
  refine lv_aload_n hx hb dX0_makeKey_0 rfl (lv_at hl 0 rfl) ?_
  refine va_get (D := (dC, dI)) (ci := 0) (v := .ref (o 3)) (C := RX0) (T := TX0) (N := 12) hx hb hts kt_X0 hown hK hP 0 rfl rfl 4 (by decide) (kx_word hG kq_16_xentry_22 rfl) (fun _ h9 => h9) rfl dX0_makeKey_1 ?_
  have hPc := hP.sub (ws' := (iU cI 40 (o 3) (r 2) (n 2) (z 2) (F 2))) [5, 6] rfl
  have hDc := hD.sub (ws' := (iU cI 40 (o 3) (r 2) (n 2) (z 2) (F 2))) [5, 6] (by decide) rfl
  have hFc := va_free (wc := (iU cI 40 (o 3) (r 2) (n 2) (z 2) (F 2))) hD hS hA [5, 6] rfl
  refine xk_call (va_runV (As := []) (rest := []) ⟨hx, hb, hml, hown, hts⟩ (x_clear l dC dI cI cB cE 40 (o 3) (r 2) (n 2) (z 2) (F 2)  s.heap.size ) (cwV 0 hts (kx_gV kq_16_xentry_32 kq_15_xspan_42 kq_15_xspan_43 kq_13_xints_6 kq_15_xspan_44 rfl) rfl rfl rfl (by decide +kernel) ⟨Nat.le_of_ble_eq_true rfl, Nat.le_of_ble_eq_true rfl⟩) ⟨kx_blind, va_recv hK hPc (ci := 1) (q0 := 0) rfl rfl, kx_give (ws := []) (tys := []) hPc hDc hK hG hZ hS hFc⟩ rfl rfl hl.1 rfl (lv_room (Nat.le_of_ble_eq_true rfl)) dX0_makeKey_4 ⟨show 0 + 0 ≤ 20 from (by omega), show 0 + 0 ≤ 3500 from (by omega)⟩) hS (fun q _ h => hFc q h) hFc (fun u dn_2 dm_3 t H locs ht hvm hq_1 hB hk1 hS => ?_)
  obtain ⟨z_4, rfl⟩ : ∃ z, z = u := ⟨_, rfl⟩
  obtain ⟨hP1, hK1, hD1⟩ := hB
  rw [ht] at hP1
  obtain ⟨hP, hD⟩ := xj (wr := [(o 0, .inr (0, [.int (iz (z 7)), .int (iz (z 8)), .ref (o 1), .ref (o 2), .ref (o 3), .ref (o 5), .ref (o 4), .int (iz (z 9)), .int (iz (z 10)), .int (iz (z 11)), .int (iz (z 12)), .int (iz (z 13))])), (o 1, .inr (1, [.int (iz 20), .ref (r 0), .int (iz (z 0))])), (r 0, .inl (cI, n 0, .inl (iA (F 0)))), (o 2, .inr (1, [.int (iz 20), .ref (r 1), .int (iz (z 1))])), (r 1, .inl (cI, n 1, .inl (iA (F 1)))), (o 4, .inr (1, [.int (iz 5), .ref (r 3), .int (iz (z 3))])), (r 3, .inl (cI, n 3, .inl (iA (F 3)))), (o 5, .inr (3, [.ref (o 6), .ref (o 7), .ref (o 8)])), (o 6, .inr (1, [.int (iz 20), .ref (r 4), .int (iz (z 4))])), (r 4, .inl (cI, n 4, .inl (iA (F 4)))), (o 7, .inr (1, [.int (iz 20), .ref (r 5), .int (iz (z 5))])), (r 5, .inl (cI, n 5, .inl (iA (F 5)))), (o 8, .inr (1, [.int (iz 20), .ref (r 6), .int (iz (z 6))])), (r 6, .inl (cI, n 6, .inl (iA (F 6))))]) (w1 := (iU cI 40 (o 3) (r 2) (n 2) z_4 (F 2))) (ws' := (eU cI o r n (va_up z 2 z_4) F)) hP hD [5, 6] [0, 1, 2, 3, 4, 7, 8, 9, 10, 11, 12, 13, 14, 15] [0, 1, 2, 3, 4, 14, 15, 5, 6, 7, 8, 9, 10, 11, 12, 13] rfl rfl (by decide) (by decide) hk1 hFc hP1 hD1 rfl (by decide)
  refine W.eq (g2 := F0 m 7 ls []) rfl ?_
  try dsimp only at hq_1
  obtain ⟨hdc, hmc, hzc⟩ := hq_1
  subst hdc
  subst hmc
  refine lv_iconst (v := iz 0) hx hb dX0_makeKey_7 (by decide) ?_
  refine lv_istore_n (lv' := [(3, .int (iz 0)), (0, .ref (o 0)), (1, .int (iz p0)), (2, .int (iz p1))]) hx hb dX0_makeKey_8 rfl hl (by decide) rfl (fun ls hl => ?_)
  refine lv_iconst (v := iz 0) hx hb dX0_makeKey_9 (by decide) ?_
  refine lv_istore (lv' := [(4, .int (iz 0)), (3, .int (iz 0)), (0, .ref (o 0)), (1, .int (iz p0)), (2, .int (iz p1))]) hx hb dX0_makeKey_10 hl (by decide) rfl (fun ls hl => ?_)
  have lp12 : ∀ (n0 : Nat) (bd : Int) (k : Int) (rv : Nat) (nv : Nat) (zv : Int) (Fv : Int → Int) (cv : Nat) (sv : Nat), ((bd = 0 ∨ bd = 1) ∧ (0 ≤ k ∧ k ≤ z 0) ∧ (0 ≤ zv ∧ zv ≤ (nv : Int) ∧ (nv : Int) ≤ 40) ∧ (iB Fv) ∧ (cv + psg 40 nv ≤ psg 40 (n 2) ∧ sv + psj 40 nv ≤ psj 40 (n 2))) → (z 0 - k).toNat < n0 → ∀ (H : Heap) (locs : List Loc), va_P (dC, dI) kxCl (eU cI o (va_up r 2 rv) (va_up n 2 nv) (va_up z 2 zv) (va_up F 2 Fv)) H → va_D A (eU cI o (va_up r 2 rv) (va_up n 2 nv) (va_up z 2 zv) (va_up F 2 Fv)) → va_S A s.heap H locs → ∀ ls : Array Slot, lv_has ls 6 [(4, .int (iz k)), (3, .int (iz bd)), (0, .ref (o 0)), (1, .int (iz p0)), (2, .int (iz p1))] → W p l e (headSpec [.code yX0_makeKey cX0_makeKey 6 none] ({ frames := 4, cells := 20, slots := 3500, locals := 127 })).room s m ([.ref (o 0), .int (iz p0), .int (iz p1)] : List Value).toArray below meth c H locs cv sv QQ (F0 m 12 ls []) := by
    intro n0
    induction n0 with
    | zero => intro bd k rv nv zv Fv cv sv hinv hm0; exact absurd hm0 (Nat.not_lt_zero _)
    | succ n0 ih12 =>
      intro bd k rv nv zv Fv cv sv hinv hm0 H locs hP hD hS ls hl
      obtain ⟨hbd, hk, hv, hFv, hcv⟩ := hinv
      refine lv_iload hx hb dX0_makeKey_12 (lv_at hl 0 rfl) ?_
      refine lv_aload_n hx hb dX0_makeKey_14 rfl (lv_at hl 2 rfl) ?_
      refine va_get (D := (dC, dI)) (ci := 0) (v := .ref (o 1)) (C := RX0) (T := TX0) (N := 12) hx hb hts kt_X0 hown hK hP 0 rfl rfl 2 (by decide) (kx_word hG kq_16_xentry_4 rfl) (fun _ h9 => h9) rfl dX0_makeKey_15 ?_
      have hPc := hP.sub (ws' := (iU cI 20 (o 1) (r 0) (n 0) (z 0) (F 0))) [1, 2] rfl
      refine xk_pure (va_runV (As := []) (rest := [.int (iz k)]) ⟨hx, hb, hml, hown, hts⟩ (x_size l dC dI cI cB cE 20 (o 1) (r 0) (n 0) (z 0) (F 0)  H.size ) (cwV 0 hts (kx_gV kq_16_xentry_23 kq_15_xspan_10 kq_15_xspan_11 kq_13_xints_6 kq_15_xspan_12 rfl) rfl rfl rfl (by decide +kernel) ⟨Nat.le_of_ble_eq_true rfl, Nat.le_of_ble_eq_true rfl⟩) ⟨pPre_blind, va_recv hK hPc (ci := 1) (q0 := 0) rfl rfl, pPre_give hPc hK hG⟩ rfl rfl hl.1 rfl (lv_room (Nat.le_of_ble_eq_true rfl)) dX0_makeKey_18 ⟨show cv + 0 ≤ 20 from (by omega), show sv + 0 ≤ 3500 from (by omega)⟩) hS (fun z_6 locs hq_5 hS => ?_)
      refine W.eq (g2 := F0 m 21 ls [.int (iz z_6), .int (iz k)]) rfl ?_
      try dsimp only at hq_5
      have hq_5 := hq_5.symm
      subst hq_5
      refine ki_icmp_ge (tgt := 167) hx hb dX0_makeKey_21 (by decide) (by omega) (by omega) (by omega) (by omega) (fun c_7 => ?_) (fun c_7 => ?_)
      · skip
        rw [← hQe]
        exact xk_vret (ov := (fun _ : Nat × Nat × Int × (Int → Int) => none)) (post := (fun (u : Nat × Nat × Int × (Int → Int)) (dn dm : Nat) => match u with | (r2', n2', z2', F2') => ((0 ≤ z2' ∧ z2' ≤ (n2' : Int) ∧ (n2' : Int) ≤ 40) ∧ iB F2') ∧ (dn + psg 40 n2' ≤ psg 40 (n 2) ∧ dm + psj 40 n2' ≤ psj 40 (n 2)))) (ws := (fun u : Nat × Nat × Int × (Int → Int) => match u with | (r2', n2', z2', F2') => (eU cI o (va_up r 2 r2') (va_up n 2 n2') (va_up z 2 z2') (va_up F 2 F2')))) (tys := xT cI cB cE) (rv, nv, zv, Fv) hx hb hr hlocks rfl hP hD hK hS dX0_makeKey_167 (fun dn dm hdn hdm => ⟨⟨by omega, hFv⟩, by omega⟩) (by omega) (by omega)
      · skip
        refine lv_aload_n hx hb dX0_makeKey_24 rfl (lv_at hl 2 rfl) ?_
        refine va_get (D := (dC, dI)) (ci := 0) (v := .ref (o 1)) (C := RX0) (T := TX0) (N := 12) hx hb hts kt_X0 hown hK hP 0 rfl rfl 2 (by decide) (kx_word hG kq_16_xentry_4 rfl) (fun _ h9 => h9) rfl dX0_makeKey_25 ?_
        refine lv_iload hx hb dX0_makeKey_28 (lv_at hl 0 rfl) ?_
        have hPc := hP.sub (ws' := (iU cI 20 (o 1) (r 0) (n 0) (z 0) (F 0))) [1, 2] rfl
        refine xk_pure (va_runV (As := [.int (iz k)]) (rest := []) ⟨hx, hb, hml, hown, hts⟩ (x_get l dC dI cI cB cE 20 (o 1) (r 0) (n 0) (z 0) (F 0) k H.size (by omega) (hE.2.1 0) (by omega) (by omega)) (cwV 1 hts (kx_gV kq_16_xentry_24 kq_13_xints_4 kq_13_xints_5 kq_13_xints_6 kq_13_xints_7 rfl) rfl rfl rfl (by decide +kernel) ⟨Nat.le_of_ble_eq_true rfl, Nat.le_of_ble_eq_true rfl⟩) ⟨pPre_blind, va_recv hK hPc (ci := 1) (q0 := 0) rfl rfl, pPre_give hPc hK hG⟩ rfl rfl hl.1 rfl (lv_room (Nat.le_of_ble_eq_true rfl)) dX0_makeKey_30 ⟨show cv + 0 ≤ 20 from (by omega), show sv + 0 ≤ 3500 from (by omega)⟩) hS (fun z_9 locs hq_8 hS => ?_)
        refine W.eq (g2 := F0 m 33 ls [.int (iz z_9)]) rfl ?_
        try dsimp only at hq_8
        refine lv_istore (lv' := [(5, .int (iz z_9)), (4, .int (iz k)), (3, .int (iz bd)), (0, .ref (o 0)), (1, .int (iz p0)), (2, .int (iz p1))]) hx hb dX0_makeKey_33 hl (by decide) rfl (fun ls hl => ?_)
        refine lv_iload hx hb dX0_makeKey_35 (lv_at hl 0 rfl) ?_
        have hPc : va_P (dC, dI) kxCl [] H := fun k q h => by simp at h
        refine xk_pure (va_runS (As := [.int (iz z_9)]) (rest := []) ⟨hx, hb, hml, hown, hts⟩ (x_isLetter l dC dI cI cB cE z_9 H.size (by omega) (by omega)) (va_cwS 1 hts (kx_gS kq_16_xentry_33 kq_16_xentry_34 kq_16_xentry_2 kq_16_xentry_35 rfl) rfl rfl rfl (by decide +kernel) ⟨Nat.le_of_ble_eq_true rfl, Nat.le_of_ble_eq_true rfl⟩) ⟨pPre_blind, pPre_give hPc hK hG⟩ rfl rfl hl.1 rfl (lv_room (Nat.le_of_ble_eq_true rfl)) dX0_makeKey_37 ⟨show cv + 0 ≤ 20 from (by omega), show sv + 0 ≤ 3500 from (by omega)⟩) hS (fun z_11 locs hq_10 hS => ?_)
        refine W.eq (g2 := F0 m 40 ls [.int (iz z_11)]) rfl ?_
        try dsimp only at hq_10
        refine ki_if_ne (tgt := 74) hx hb dX0_makeKey_40 (by decide) (by omega) (by omega) (fun c_12 => ?_) (fun c_12 => ?_)
        · skip
          refine lv_iload_n hx hb dX0_makeKey_74 rfl (lv_at hl 2 rfl) ?_
          refine ki_if_eq (tgt := 88) hx hb dX0_makeKey_75 (by decide) (by omega) (by omega) (fun c_13 => ?_) (fun c_13 => ?_)
          · skip
            refine lv_iload hx hb dX0_makeKey_88 (lv_at hl 0 rfl) ?_
            have hPc : va_P (dC, dI) kxCl [] H := fun k q h => by simp at h
            refine xk_pure (va_runS (As := [.int (iz z_9)]) (rest := []) ⟨hx, hb, hml, hown, hts⟩ (x_isLetter l dC dI cI cB cE z_9 H.size (by omega) (by omega)) (va_cwS 1 hts (kx_gS kq_16_xentry_33 kq_16_xentry_34 kq_16_xentry_2 kq_16_xentry_35 rfl) rfl rfl rfl (by decide +kernel) ⟨Nat.le_of_ble_eq_true rfl, Nat.le_of_ble_eq_true rfl⟩) ⟨pPre_blind, pPre_give hPc hK hG⟩ rfl rfl hl.1 rfl (lv_room (Nat.le_of_ble_eq_true rfl)) dX0_makeKey_90 ⟨show cv + 0 ≤ 20 from (by omega), show sv + 0 ≤ 3500 from (by omega)⟩) hS (fun z_15 locs hq_14 hS => ?_)
            refine W.eq (g2 := F0 m 93 ls [.int (iz z_15)]) rfl ?_
            try dsimp only at hq_14
            refine ki_if_eq (tgt := 115) hx hb dX0_makeKey_93 (by decide) (by omega) (by omega) (fun c_16 => ?_) (fun c_16 => ?_)
            · skip
              refine lv_iload_n hx hb dX0_makeKey_115 rfl (lv_at hl 4 rfl) ?_
              refine ki_if_ne (tgt := 132) hx hb dX0_makeKey_116 (by decide) (by omega) (by omega) (fun c_17 => ?_) (fun c_17 => ?_)
              · skip
                refine lv_aload_n hx hb dX0_makeKey_132 rfl (lv_at hl 3 rfl) ?_
                refine va_get (D := (dC, dI)) (ci := 0) (v := .ref (o 1)) (C := RX0) (T := TX0) (N := 12) hx hb hts kt_X0 hown hK hP 0 rfl rfl 2 (by decide) (kx_word hG kq_16_xentry_4 rfl) (fun _ h9 => h9) rfl dX0_makeKey_133 ?_
                refine lv_iload hx hb dX0_makeKey_136 (lv_at hl 1 rfl) ?_
                refine lv_iconst (v := iz 1) hx hb dX0_makeKey_138 (by decide) ?_
                refine ki_isub hx hb dX0_makeKey_139 ?_
                have hPc := hP.sub (ws' := (iU cI 20 (o 1) (r 0) (n 0) (z 0) (F 0))) [1, 2] rfl
                refine xk_pure (va_runV (As := [.int (iz (k - 1))]) (rest := []) ⟨hx, hb, hml, hown, hts⟩ (x_get l dC dI cI cB cE 20 (o 1) (r 0) (n 0) (z 0) (F 0) (k - 1) H.size (by omega) (hE.2.1 0) (by omega) (by omega)) (cwV 1 hts (kx_gV kq_16_xentry_24 kq_13_xints_4 kq_13_xints_5 kq_13_xints_6 kq_13_xints_7 rfl) rfl rfl rfl (by decide +kernel) ⟨Nat.le_of_ble_eq_true rfl, Nat.le_of_ble_eq_true rfl⟩) ⟨pPre_blind, va_recv hK hPc (ci := 1) (q0 := 0) rfl rfl, pPre_give hPc hK hG⟩ rfl rfl hl.1 rfl (lv_room (Nat.le_of_ble_eq_true rfl)) dX0_makeKey_140 ⟨show cv + 0 ≤ 20 from (by omega), show sv + 0 ≤ 3500 from (by omega)⟩) hS (fun z_19 locs hq_18 hS => ?_)
                refine W.eq (g2 := F0 m 143 ls [.int (iz z_19)]) rfl ?_
                try dsimp only at hq_18
                have hPc : va_P (dC, dI) kxCl [] H := fun k q h => by simp at h
                refine xk_pure (va_runS (As := [.int (iz z_19)]) (rest := []) ⟨hx, hb, hml, hown, hts⟩ (x_isDigit l dC dI cI cB cE z_19 H.size (by omega) (by omega)) (va_cwS 1 hts (kx_gS kq_16_xentry_29 kq_16_xentry_30 kq_16_xentry_2 kq_16_xentry_31 rfl) rfl rfl rfl (by decide +kernel) ⟨Nat.le_of_ble_eq_true rfl, Nat.le_of_ble_eq_true rfl⟩) ⟨pPre_blind, pPre_give hPc hK hG⟩ rfl rfl hl.1 rfl (lv_room (Nat.le_of_ble_eq_true rfl)) dX0_makeKey_143 ⟨show cv + 0 ≤ 20 from (by omega), show sv + 0 ≤ 3500 from (by omega)⟩) hS (fun z_21 locs hq_20 hS => ?_)
                refine W.eq (g2 := F0 m 146 ls [.int (iz z_21)]) rfl ?_
                try dsimp only at hq_20
                rcases hq_20 with ⟨rfl, hq_20⟩ | ⟨rfl, hq_20⟩
                · skip
                  refine ki_if_ne (tgt := 161) hx hb dX0_makeKey_146 (by decide) (by omega) (by omega) (fun c_22 => ?_) (fun c_22 => ?_)
                  · skip
                    refine lv_iinc (v := iz (k + 1)) (lv' := [(4, .int (iz (k + 1))), (5, .int (iz z_9)), (3, .int (iz bd)), (0, .ref (o 0)), (1, .int (iz p0)), (2, .int (iz p1))]) hx hb dX0_makeKey_161 hl (k := 1) rfl (iz_add k 1) (by decide) rfl (fun ls hl => ?_)
                    refine lv_goto (tgt := 12) hx hb dX0_makeKey_164 (by decide) ?_
                    exact ih12 bd (k + 1) rv nv zv Fv cv sv ⟨by omega, by omega, by omega, hFv, by omega⟩ (by omega) _ _ hP hD hS ls (lv_sub hl [0, 2, 3, 4, 5] rfl)
                  · omega
                · skip
                  refine ki_if_ne (tgt := 161) hx hb dX0_makeKey_146 (by decide) (by omega) (by omega) (fun c_23 => ?_) (fun c_23 => ?_)
                  · omega
                  · skip
                    refine lv_aload_n hx hb dX0_makeKey_149 rfl (lv_at hl 3 rfl) ?_
                    refine lv_iload hx hb dX0_makeKey_150 (lv_at hl 1 rfl) ?_
                    refine lv_aload_n hx hb dX0_makeKey_152 rfl (lv_at hl 3 rfl) ?_
                    refine lv_iload hx hb dX0_makeKey_153 (lv_at hl 1 rfl) ?_
                    have hPc := hP.sub (ws' := (eU cI o (va_up r 2 rv) (va_up n 2 nv) (va_up z 2 zv) (va_up F 2 Fv))) [0, 1, 2, 3, 4, 5, 6, 7, 8, 9, 10, 11, 12, 13, 14, 15] rfl
                    refine xk_pure (va_runV (As := [.int (iz k)]) (rest := [.int (iz k), .ref (o 0)]) ⟨hx, hb, hml, hown, hts⟩ (x_digitsEnd l dC dI cI cB cE o (va_up r 2 rv) (va_up n 2 nv) (va_up z 2 zv) (va_up F 2 Fv) k H.size (hE.i 2 (by decide) (show 0 ≤ zv ∧ zv ≤ ((nv : Nat) : Int) ∧ ((nv : Nat) : Int) ≤ 40 by omega) hFv (by omega)) (by omega) (by omega) (by omega)) (cwV 1 hts (kx_gV kq_16_xentry_36 kq_16_xentry_37 kq_16_xentry_38 kq_16_xentry_2 kq_16_xentry_39 rfl) rfl rfl rfl (by decide +kernel) ⟨Nat.le_of_ble_eq_true rfl, Nat.le_of_ble_eq_true rfl⟩) ⟨pPre_blind, va_recv hK hPc (ci := 0) (q0 := 0) rfl rfl, pPre_give hPc hK hG⟩ rfl rfl hl.1 rfl (lv_room (Nat.le_of_ble_eq_true rfl)) dX0_makeKey_155 ⟨show cv + 0 ≤ 20 from (by omega), show sv + 0 ≤ 3500 from (by omega)⟩) hS (fun z_25 locs hq_24 hS => ?_)
                    refine W.eq (g2 := F0 m 158 ls [.int (iz z_25), .int (iz k), .ref (o 0)]) rfl ?_
                    try dsimp only at hq_24
                    try simp (decide := true) only [va_ev, ↓reduceIte] at hq_24
                    have hPc := hP.sub (ws' := (eU cI o (va_up r 2 rv) (va_up n 2 nv) (va_up z 2 zv) (va_up F 2 Fv))) [0, 1, 2, 3, 4, 5, 6, 7, 8, 9, 10, 11, 12, 13, 14, 15] rfl
                    have hDc := hD.sub (ws' := (eU cI o (va_up r 2 rv) (va_up n 2 nv) (va_up z 2 zv) (va_up F 2 Fv))) [0, 1, 2, 3, 4, 5, 6, 7, 8, 9, 10, 11, 12, 13, 14, 15] (by decide) rfl
                    have hFc := va_free (wc := (eU cI o (va_up r 2 rv) (va_up n 2 nv) (va_up z 2 zv) (va_up F 2 Fv))) hD hS hA [0, 1, 2, 3, 4, 5, 6, 7, 8, 9, 10, 11, 12, 13, 14, 15] rfl
                    refine xk_call (va_runV (As := [.int (iz k), .int (iz z_25)]) (rest := []) ⟨hx, hb, hml, hown, hts⟩ (x_addNumber l dC dI cI cB cE o (va_up r 2 rv) (va_up n 2 nv) (va_up z 2 zv) (va_up F 2 Fv) k z_25 H.size (hE.i 2 (by decide) (show 0 ≤ zv ∧ zv ≤ ((nv : Nat) : Int) ∧ ((nv : Nat) : Int) ≤ 40 by omega) hFv (by omega)) (by omega) (by omega) (by omega) (by omega) (by omega) (by omega)) (cwV 2 hts (kx_gV kq_16_xentry_40 kq_16_xentry_41 kq_16_xentry_42 kq_16_xentry_2 kq_16_xentry_43 rfl) rfl rfl rfl (by decide +kernel) ⟨Nat.le_of_ble_eq_true rfl, Nat.le_of_ble_eq_true rfl⟩) ⟨kx_blind, va_recv hK hPc (ci := 0) (q0 := 0) rfl rfl, kx_give (ws := []) (tys := []) hPc hDc hK hG hZ hS hFc⟩ rfl rfl hl.1 rfl (lv_room (Nat.le_of_ble_eq_true rfl)) dX0_makeKey_158 ⟨show cv + 10 ≤ 20 from (by omega), show sv + 1720 ≤ 3500 from (by omega)⟩) hS (fun q _ h => hFc q h) hFc (fun u dn_27 dm_28 t H locs ht hvm hq_26 hB hk1 hS => ?_)
                    obtain ⟨r2_29, n2_30, z2_31, F2_32⟩ := u
                    obtain ⟨hP1, hK1, hD1⟩ := hB
                    rw [ht] at hP1
                    obtain ⟨hP, hD⟩ := xj (wr := []) (w1 := (eU cI o (va_up (va_up r 2 rv) 2 r2_29) (va_up (va_up n 2 nv) 2 n2_30) (va_up (va_up z 2 zv) 2 z2_31) (va_up (va_up F 2 Fv) 2 F2_32))) (ws' := (eU cI o (va_up r 2 r2_29) (va_up n 2 n2_30) (va_up z 2 z2_31) (va_up F 2 F2_32))) hP hD [0, 1, 2, 3, 4, 5, 6, 7, 8, 9, 10, 11, 12, 13, 14, 15] [] [0, 1, 2, 3, 4, 5, 6, 7, 8, 9, 10, 11, 12, 13, 14, 15] rfl rfl (by decide) (by decide) hk1 hFc hP1 hD1 rfl (by decide)
                    refine W.eq (g2 := F0 m 161 ls []) rfl ?_
                    try dsimp only at hq_26
                    try simp (decide := true) only [va_ev, ↓reduceIte] at hq_26
                    obtain ⟨⟨ha33, hb33⟩, hc33⟩ := hq_26
                    refine lv_iinc (v := iz (k + 1)) (lv' := [(4, .int (iz (k + 1))), (5, .int (iz z_9)), (3, .int (iz bd)), (0, .ref (o 0)), (1, .int (iz p0)), (2, .int (iz p1))]) hx hb dX0_makeKey_161 hl (k := 1) rfl (iz_add k 1) (by decide) rfl (fun ls hl => ?_)
                    refine lv_goto (tgt := 12) hx hb dX0_makeKey_164 (by decide) ?_
                    exact ih12 bd (k + 1) r2_29 n2_30 z2_31 F2_32 (cv + dn_27) (sv + dm_28) ⟨by omega, by omega, by omega, hb33, by omega⟩ (by omega) _ _ hP hD hS ls (lv_sub hl [0, 2, 3, 4, 5] rfl)
              · skip
                refine lv_aload_n hx hb dX0_makeKey_119 rfl (lv_at hl 3 rfl) ?_
                refine lv_iload hx hb dX0_makeKey_120 (lv_at hl 1 rfl) ?_
                refine lv_iload hx hb dX0_makeKey_122 (lv_at hl 1 rfl) ?_
                refine lv_iconst (v := iz 1) hx hb dX0_makeKey_124 (by decide) ?_
                refine ki_iadd hx hb dX0_makeKey_125 ?_
                have hPc := hP.sub (ws' := (eU cI o (va_up r 2 rv) (va_up n 2 nv) (va_up z 2 zv) (va_up F 2 Fv))) [0, 1, 2, 3, 4, 5, 6, 7, 8, 9, 10, 11, 12, 13, 14, 15] rfl
                have hDc := hD.sub (ws' := (eU cI o (va_up r 2 rv) (va_up n 2 nv) (va_up z 2 zv) (va_up F 2 Fv))) [0, 1, 2, 3, 4, 5, 6, 7, 8, 9, 10, 11, 12, 13, 14, 15] (by decide) rfl
                have hFc := va_free (wc := (eU cI o (va_up r 2 rv) (va_up n 2 nv) (va_up z 2 zv) (va_up F 2 Fv))) hD hS hA [0, 1, 2, 3, 4, 5, 6, 7, 8, 9, 10, 11, 12, 13, 14, 15] rfl
                refine xk_call (va_runV (As := [.int (iz k), .int (iz (k + 1))]) (rest := []) ⟨hx, hb, hml, hown, hts⟩ (x_addNumber l dC dI cI cB cE o (va_up r 2 rv) (va_up n 2 nv) (va_up z 2 zv) (va_up F 2 Fv) k (k + 1) H.size (hE.i 2 (by decide) (show 0 ≤ zv ∧ zv ≤ ((nv : Nat) : Int) ∧ ((nv : Nat) : Int) ≤ 40 by omega) hFv (by omega)) (by omega) (by omega) (by omega) (by omega) (by omega) (by omega)) (cwV 2 hts (kx_gV kq_16_xentry_40 kq_16_xentry_41 kq_16_xentry_42 kq_16_xentry_2 kq_16_xentry_43 rfl) rfl rfl rfl (by decide +kernel) ⟨Nat.le_of_ble_eq_true rfl, Nat.le_of_ble_eq_true rfl⟩) ⟨kx_blind, va_recv hK hPc (ci := 0) (q0 := 0) rfl rfl, kx_give (ws := []) (tys := []) hPc hDc hK hG hZ hS hFc⟩ rfl rfl hl.1 rfl (lv_room (Nat.le_of_ble_eq_true rfl)) dX0_makeKey_126 ⟨show cv + 10 ≤ 20 from (by omega), show sv + 1720 ≤ 3500 from (by omega)⟩) hS (fun q _ h => hFc q h) hFc (fun u dn_35 dm_36 t H locs ht hvm hq_34 hB hk1 hS => ?_)
                obtain ⟨r2_37, n2_38, z2_39, F2_40⟩ := u
                obtain ⟨hP1, hK1, hD1⟩ := hB
                rw [ht] at hP1
                obtain ⟨hP, hD⟩ := xj (wr := []) (w1 := (eU cI o (va_up (va_up r 2 rv) 2 r2_37) (va_up (va_up n 2 nv) 2 n2_38) (va_up (va_up z 2 zv) 2 z2_39) (va_up (va_up F 2 Fv) 2 F2_40))) (ws' := (eU cI o (va_up r 2 r2_37) (va_up n 2 n2_38) (va_up z 2 z2_39) (va_up F 2 F2_40))) hP hD [0, 1, 2, 3, 4, 5, 6, 7, 8, 9, 10, 11, 12, 13, 14, 15] [] [0, 1, 2, 3, 4, 5, 6, 7, 8, 9, 10, 11, 12, 13, 14, 15] rfl rfl (by decide) (by decide) hk1 hFc hP1 hD1 rfl (by decide)
                refine W.eq (g2 := F0 m 129 ls []) rfl ?_
                try dsimp only at hq_34
                try simp (decide := true) only [va_ev, ↓reduceIte] at hq_34
                obtain ⟨⟨ha41, hb41⟩, hc41⟩ := hq_34
                refine lv_goto (tgt := 161) hx hb dX0_makeKey_129 (by decide) ?_
                refine lv_iinc (v := iz (k + 1)) (lv' := [(4, .int (iz (k + 1))), (5, .int (iz z_9)), (3, .int (iz bd)), (0, .ref (o 0)), (1, .int (iz p0)), (2, .int (iz p1))]) hx hb dX0_makeKey_161 hl (k := 1) rfl (iz_add k 1) (by decide) rfl (fun ls hl => ?_)
                refine lv_goto (tgt := 12) hx hb dX0_makeKey_164 (by decide) ?_
                exact ih12 bd (k + 1) r2_37 n2_38 z2_39 F2_40 (cv + dn_35) (sv + dm_36) ⟨by omega, by omega, by omega, hb41, by omega⟩ (by omega) _ _ hP hD hS ls (lv_sub hl [0, 2, 3, 4, 5] rfl)
            · skip
              refine lv_aload_n hx hb dX0_makeKey_96 rfl (lv_at hl 3 rfl) ?_
              refine va_get (D := (dC, dI)) (ci := 0) (v := .ref (o 3)) (C := RX0) (T := TX0) (N := 12) hx hb hts kt_X0 hown hK hP 0 rfl rfl 4 (by decide) (kx_word hG kq_16_xentry_22 rfl) (fun _ h9 => h9) rfl dX0_makeKey_97 ?_
              refine lv_iload hx hb dX0_makeKey_100 (lv_at hl 0 rfl) ?_
              refine lv_sipush (v := iz 128) hx hb dX0_makeKey_102 (by decide) ?_
              refine lv_irem hx hb dX0_makeKey_105 (show ¬ iz 128 = 0 by decide) ?_
              refine ki_any (fun z_42 hz_42a hz_42b => ?_)
              have hPc : va_P (dC, dI) kxCl [] H := fun k q h => by simp at h
              refine xk_pure (va_runS (As := [.int (iz z_42)]) (rest := [.ref (o 3)]) ⟨hx, hb, hml, hown, hts⟩ (x_smallOf l dC dI cI cB cE z_42 H.size (by omega) (by omega)) (va_cwS 1 hts (kx_gS kq_16_xentry_0 kq_16_xentry_1 kq_16_xentry_2 kq_16_xentry_3 rfl) rfl rfl rfl (by decide +kernel) ⟨Nat.le_of_ble_eq_true rfl, Nat.le_of_ble_eq_true rfl⟩) ⟨pPre_blind, pPre_give hPc hK hG⟩ rfl rfl hl.1 rfl (lv_room (Nat.le_of_ble_eq_true rfl)) dX0_makeKey_106 ⟨show cv + 0 ≤ 20 from (by omega), show sv + 0 ≤ 3500 from (by omega)⟩) hS (fun z_44 locs hq_43 hS => ?_)
              refine W.eq (g2 := F0 m 109 ls [.int (iz z_44), .ref (o 3)]) rfl ?_
              try dsimp only at hq_43
              have hPc := hP.sub (ws' := (iU cI 40 (o 3) rv nv zv Fv)) [5, 6] rfl
              have hDc := hD.sub (ws' := (iU cI 40 (o 3) rv nv zv Fv)) [5, 6] (by decide) rfl
              have hFc := va_free (wc := (iU cI 40 (o 3) rv nv zv Fv)) hD hS hA [5, 6] rfl
              refine xk_call (va_runV (As := [.int (iz z_44)]) (rest := []) ⟨hx, hb, hml, hown, hts⟩ (x_add l dC dI cI cB cE 40 (o 3) rv nv zv Fv z_44 H.size (by omega) hFv (by omega) (by omega)) (cwV 1 hts (kx_gV kq_16_xentry_5 kq_15_xspan_46 kq_15_xspan_47 kq_13_xints_6 kq_15_xspan_48 rfl) rfl rfl rfl (by decide +kernel) ⟨Nat.le_of_ble_eq_true rfl, Nat.le_of_ble_eq_true rfl⟩) ⟨kx_blind, va_recv hK hPc (ci := 1) (q0 := 0) rfl rfl, kx_give (ws := []) (tys := []) hPc hDc hK hG hZ hS hFc⟩ rfl rfl hl.1 rfl (lv_room (Nat.le_of_ble_eq_true rfl)) dX0_makeKey_109 ⟨show cv + 1 ≤ 20 from (by omega), show sv + 1600 ≤ 3500 from (by omega)⟩) hS (fun q _ h => hFc q h) hFc (fun u dn_46 dm_47 t H locs ht hvm hq_45 hB hk1 hS => ?_)
              obtain ⟨r_48, n_49, z_50, F_51⟩ := u
              obtain ⟨hP1, hK1, hD1⟩ := hB
              rw [ht] at hP1
              obtain ⟨hP, hD⟩ := xj (wr := [(o 0, .inr (0, [.int (iz (z 7)), .int (iz (z 8)), .ref (o 1), .ref (o 2), .ref (o 3), .ref (o 5), .ref (o 4), .int (iz (z 9)), .int (iz (z 10)), .int (iz (z 11)), .int (iz (z 12)), .int (iz (z 13))])), (o 1, .inr (1, [.int (iz 20), .ref (r 0), .int (iz (z 0))])), (r 0, .inl (cI, n 0, .inl (iA (F 0)))), (o 2, .inr (1, [.int (iz 20), .ref (r 1), .int (iz (z 1))])), (r 1, .inl (cI, n 1, .inl (iA (F 1)))), (o 4, .inr (1, [.int (iz 5), .ref (r 3), .int (iz (z 3))])), (r 3, .inl (cI, n 3, .inl (iA (F 3)))), (o 5, .inr (3, [.ref (o 6), .ref (o 7), .ref (o 8)])), (o 6, .inr (1, [.int (iz 20), .ref (r 4), .int (iz (z 4))])), (r 4, .inl (cI, n 4, .inl (iA (F 4)))), (o 7, .inr (1, [.int (iz 20), .ref (r 5), .int (iz (z 5))])), (r 5, .inl (cI, n 5, .inl (iA (F 5)))), (o 8, .inr (1, [.int (iz 20), .ref (r 6), .int (iz (z 6))])), (r 6, .inl (cI, n 6, .inl (iA (F 6))))]) (w1 := (iU cI 40 (o 3) r_48 n_49 z_50 F_51)) (ws' := (eU cI o (va_up r 2 r_48) (va_up n 2 n_49) (va_up z 2 z_50) (va_up F 2 F_51))) hP hD [5, 6] [0, 1, 2, 3, 4, 7, 8, 9, 10, 11, 12, 13, 14, 15] [0, 1, 2, 3, 4, 14, 15, 5, 6, 7, 8, 9, 10, 11, 12, 13] rfl rfl (by decide) (by decide) hk1 hFc hP1 hD1 rfl (by decide)
              refine W.eq (g2 := F0 m 112 ls []) rfl ?_
              try dsimp only at hq_45
              obtain ⟨ha52, hb52, hc52, hd52⟩ := hq_45
              refine lv_goto (tgt := 161) hx hb dX0_makeKey_112 (by decide) ?_
              refine lv_iinc (v := iz (k + 1)) (lv' := [(4, .int (iz (k + 1))), (5, .int (iz z_9)), (3, .int (iz bd)), (0, .ref (o 0)), (1, .int (iz p0)), (2, .int (iz p1))]) hx hb dX0_makeKey_161 hl (k := 1) rfl (iz_add k 1) (by decide) rfl (fun ls hl => ?_)
              refine lv_goto (tgt := 12) hx hb dX0_makeKey_164 (by decide) ?_
              exact ih12 bd (k + 1) r_48 n_49 z_50 F_51 (cv + dn_46) (sv + dm_47) ⟨by omega, by omega, by omega, hb52, by omega⟩ (by omega) _ _ hP hD hS ls (lv_sub hl [0, 2, 3, 4, 5] rfl)
          · skip
            refine lv_aload_n hx hb dX0_makeKey_78 rfl (lv_at hl 3 rfl) ?_
            refine va_get (D := (dC, dI)) (ci := 0) (v := .ref (o 3)) (C := RX0) (T := TX0) (N := 12) hx hb hts kt_X0 hown hK hP 0 rfl rfl 4 (by decide) (kx_word hG kq_16_xentry_22 rfl) (fun _ h9 => h9) rfl dX0_makeKey_79 ?_
            refine lv_iconst (v := iz 1) hx hb dX0_makeKey_82 (by decide) ?_
            have hPc := hP.sub (ws' := (iU cI 40 (o 3) rv nv zv Fv)) [5, 6] rfl
            have hDc := hD.sub (ws' := (iU cI 40 (o 3) rv nv zv Fv)) [5, 6] (by decide) rfl
            have hFc := va_free (wc := (iU cI 40 (o 3) rv nv zv Fv)) hD hS hA [5, 6] rfl
            refine xk_call (va_runV (As := [.int (iz 1)]) (rest := []) ⟨hx, hb, hml, hown, hts⟩ (x_add l dC dI cI cB cE 40 (o 3) rv nv zv Fv 1 H.size (by omega) hFv (by omega) (by omega)) (cwV 1 hts (kx_gV kq_16_xentry_5 kq_15_xspan_46 kq_15_xspan_47 kq_13_xints_6 kq_15_xspan_48 rfl) rfl rfl rfl (by decide +kernel) ⟨Nat.le_of_ble_eq_true rfl, Nat.le_of_ble_eq_true rfl⟩) ⟨kx_blind, va_recv hK hPc (ci := 1) (q0 := 0) rfl rfl, kx_give (ws := []) (tys := []) hPc hDc hK hG hZ hS hFc⟩ rfl rfl hl.1 rfl (lv_room (Nat.le_of_ble_eq_true rfl)) dX0_makeKey_83 ⟨show cv + 1 ≤ 20 from (by omega), show sv + 1600 ≤ 3500 from (by omega)⟩) hS (fun q _ h => hFc q h) hFc (fun u dn_54 dm_55 t H locs ht hvm hq_53 hB hk1 hS => ?_)
            obtain ⟨r_56, n_57, z_58, F_59⟩ := u
            obtain ⟨hP1, hK1, hD1⟩ := hB
            rw [ht] at hP1
            obtain ⟨hP, hD⟩ := xj (wr := [(o 0, .inr (0, [.int (iz (z 7)), .int (iz (z 8)), .ref (o 1), .ref (o 2), .ref (o 3), .ref (o 5), .ref (o 4), .int (iz (z 9)), .int (iz (z 10)), .int (iz (z 11)), .int (iz (z 12)), .int (iz (z 13))])), (o 1, .inr (1, [.int (iz 20), .ref (r 0), .int (iz (z 0))])), (r 0, .inl (cI, n 0, .inl (iA (F 0)))), (o 2, .inr (1, [.int (iz 20), .ref (r 1), .int (iz (z 1))])), (r 1, .inl (cI, n 1, .inl (iA (F 1)))), (o 4, .inr (1, [.int (iz 5), .ref (r 3), .int (iz (z 3))])), (r 3, .inl (cI, n 3, .inl (iA (F 3)))), (o 5, .inr (3, [.ref (o 6), .ref (o 7), .ref (o 8)])), (o 6, .inr (1, [.int (iz 20), .ref (r 4), .int (iz (z 4))])), (r 4, .inl (cI, n 4, .inl (iA (F 4)))), (o 7, .inr (1, [.int (iz 20), .ref (r 5), .int (iz (z 5))])), (r 5, .inl (cI, n 5, .inl (iA (F 5)))), (o 8, .inr (1, [.int (iz 20), .ref (r 6), .int (iz (z 6))])), (r 6, .inl (cI, n 6, .inl (iA (F 6))))]) (w1 := (iU cI 40 (o 3) r_56 n_57 z_58 F_59)) (ws' := (eU cI o (va_up r 2 r_56) (va_up n 2 n_57) (va_up z 2 z_58) (va_up F 2 F_59))) hP hD [5, 6] [0, 1, 2, 3, 4, 7, 8, 9, 10, 11, 12, 13, 14, 15] [0, 1, 2, 3, 4, 14, 15, 5, 6, 7, 8, 9, 10, 11, 12, 13] rfl rfl (by decide) (by decide) hk1 hFc hP1 hD1 rfl (by decide)
            refine W.eq (g2 := F0 m 86 ls []) rfl ?_
            try dsimp only at hq_53
            obtain ⟨ha60, hb60, hc60, hd60⟩ := hq_53
            refine lv_iconst (v := iz 0) hx hb dX0_makeKey_86 (by decide) ?_
            refine lv_istore_n (lv' := [(3, .int (iz 0)), (5, .int (iz z_9)), (4, .int (iz k)), (0, .ref (o 0)), (1, .int (iz p0)), (2, .int (iz p1))]) hx hb dX0_makeKey_87 rfl hl (by decide) rfl (fun ls hl => ?_)
            refine lv_iload hx hb dX0_makeKey_88 (lv_at hl 1 rfl) ?_
            have hPc : va_P (dC, dI) kxCl [] H := fun k q h => by simp at h
            refine xk_pure (va_runS (As := [.int (iz z_9)]) (rest := []) ⟨hx, hb, hml, hown, hts⟩ (x_isLetter l dC dI cI cB cE z_9 H.size (by omega) (by omega)) (va_cwS 1 hts (kx_gS kq_16_xentry_33 kq_16_xentry_34 kq_16_xentry_2 kq_16_xentry_35 rfl) rfl rfl rfl (by decide +kernel) ⟨Nat.le_of_ble_eq_true rfl, Nat.le_of_ble_eq_true rfl⟩) ⟨pPre_blind, pPre_give hPc hK hG⟩ rfl rfl hl.1 rfl (lv_room (Nat.le_of_ble_eq_true rfl)) dX0_makeKey_90 ⟨show (cv + dn_54) + 0 ≤ 20 from (by omega), show (sv + dm_55) + 0 ≤ 3500 from (by omega)⟩) hS (fun z_62 locs hq_61 hS => ?_)
            refine W.eq (g2 := F0 m 93 ls [.int (iz z_62)]) rfl ?_
            try dsimp only at hq_61
            refine ki_if_eq (tgt := 115) hx hb dX0_makeKey_93 (by decide) (by omega) (by omega) (fun c_63 => ?_) (fun c_63 => ?_)
            · skip
              refine lv_iload_n hx hb dX0_makeKey_115 rfl (lv_at hl 4 rfl) ?_
              refine ki_if_ne (tgt := 132) hx hb dX0_makeKey_116 (by decide) (by omega) (by omega) (fun c_64 => ?_) (fun c_64 => ?_)
              · skip
                refine lv_aload_n hx hb dX0_makeKey_132 rfl (lv_at hl 3 rfl) ?_
                refine va_get (D := (dC, dI)) (ci := 0) (v := .ref (o 1)) (C := RX0) (T := TX0) (N := 12) hx hb hts kt_X0 hown hK hP 0 rfl rfl 2 (by decide) (kx_word hG kq_16_xentry_4 rfl) (fun _ h9 => h9) rfl dX0_makeKey_133 ?_
                refine lv_iload hx hb dX0_makeKey_136 (lv_at hl 2 rfl) ?_
                refine lv_iconst (v := iz 1) hx hb dX0_makeKey_138 (by decide) ?_
                refine ki_isub hx hb dX0_makeKey_139 ?_
                have hPc := hP.sub (ws' := (iU cI 20 (o 1) (r 0) (n 0) (z 0) (F 0))) [1, 2] rfl
                refine xk_pure (va_runV (As := [.int (iz (k - 1))]) (rest := []) ⟨hx, hb, hml, hown, hts⟩ (x_get l dC dI cI cB cE 20 (o 1) (r 0) (n 0) (z 0) (F 0) (k - 1) H.size (by omega) (hE.2.1 0) (by omega) (by omega)) (cwV 1 hts (kx_gV kq_16_xentry_24 kq_13_xints_4 kq_13_xints_5 kq_13_xints_6 kq_13_xints_7 rfl) rfl rfl rfl (by decide +kernel) ⟨Nat.le_of_ble_eq_true rfl, Nat.le_of_ble_eq_true rfl⟩) ⟨pPre_blind, va_recv hK hPc (ci := 1) (q0 := 0) rfl rfl, pPre_give hPc hK hG⟩ rfl rfl hl.1 rfl (lv_room (Nat.le_of_ble_eq_true rfl)) dX0_makeKey_140 ⟨show (cv + dn_54) + 0 ≤ 20 from (by omega), show (sv + dm_55) + 0 ≤ 3500 from (by omega)⟩) hS (fun z_66 locs hq_65 hS => ?_)
                refine W.eq (g2 := F0 m 143 ls [.int (iz z_66)]) rfl ?_
                try dsimp only at hq_65
                have hPc : va_P (dC, dI) kxCl [] H := fun k q h => by simp at h
                refine xk_pure (va_runS (As := [.int (iz z_66)]) (rest := []) ⟨hx, hb, hml, hown, hts⟩ (x_isDigit l dC dI cI cB cE z_66 H.size (by omega) (by omega)) (va_cwS 1 hts (kx_gS kq_16_xentry_29 kq_16_xentry_30 kq_16_xentry_2 kq_16_xentry_31 rfl) rfl rfl rfl (by decide +kernel) ⟨Nat.le_of_ble_eq_true rfl, Nat.le_of_ble_eq_true rfl⟩) ⟨pPre_blind, pPre_give hPc hK hG⟩ rfl rfl hl.1 rfl (lv_room (Nat.le_of_ble_eq_true rfl)) dX0_makeKey_143 ⟨show (cv + dn_54) + 0 ≤ 20 from (by omega), show (sv + dm_55) + 0 ≤ 3500 from (by omega)⟩) hS (fun z_68 locs hq_67 hS => ?_)
                refine W.eq (g2 := F0 m 146 ls [.int (iz z_68)]) rfl ?_
                try dsimp only at hq_67
                rcases hq_67 with ⟨rfl, hq_67⟩ | ⟨rfl, hq_67⟩
                · skip
                  refine ki_if_ne (tgt := 161) hx hb dX0_makeKey_146 (by decide) (by omega) (by omega) (fun c_69 => ?_) (fun c_69 => ?_)
                  · skip
                    refine lv_iinc (v := iz (k + 1)) (lv' := [(4, .int (iz (k + 1))), (3, .int (iz 0)), (5, .int (iz z_9)), (0, .ref (o 0)), (1, .int (iz p0)), (2, .int (iz p1))]) hx hb dX0_makeKey_161 hl (k := 2) rfl (iz_add k 1) (by decide) rfl (fun ls hl => ?_)
                    refine lv_goto (tgt := 12) hx hb dX0_makeKey_164 (by decide) ?_
                    exact ih12 0 (k + 1) r_56 n_57 z_58 F_59 (cv + dn_54) (sv + dm_55) ⟨by omega, by omega, by omega, hb60, by omega⟩ (by omega) _ _ hP hD hS ls (lv_sub hl [0, 1, 3, 4, 5] rfl)
                  · omega
                · skip
                  refine ki_if_ne (tgt := 161) hx hb dX0_makeKey_146 (by decide) (by omega) (by omega) (fun c_70 => ?_) (fun c_70 => ?_)
                  · omega
                  · skip
                    refine lv_aload_n hx hb dX0_makeKey_149 rfl (lv_at hl 3 rfl) ?_
                    refine lv_iload hx hb dX0_makeKey_150 (lv_at hl 2 rfl) ?_
                    refine lv_aload_n hx hb dX0_makeKey_152 rfl (lv_at hl 3 rfl) ?_
                    refine lv_iload hx hb dX0_makeKey_153 (lv_at hl 2 rfl) ?_
                    have hPc := hP.sub (ws' := (eU cI o (va_up r 2 r_56) (va_up n 2 n_57) (va_up z 2 z_58) (va_up F 2 F_59))) [0, 1, 2, 3, 4, 5, 6, 7, 8, 9, 10, 11, 12, 13, 14, 15] rfl
                    refine xk_pure (va_runV (As := [.int (iz k)]) (rest := [.int (iz k), .ref (o 0)]) ⟨hx, hb, hml, hown, hts⟩ (x_digitsEnd l dC dI cI cB cE o (va_up r 2 r_56) (va_up n 2 n_57) (va_up z 2 z_58) (va_up F 2 F_59) k H.size (hE.i 2 (by decide) (show 0 ≤ z_58 ∧ z_58 ≤ ((n_57 : Nat) : Int) ∧ ((n_57 : Nat) : Int) ≤ 40 by omega) hb60 (by omega)) (by omega) (by omega) (by omega)) (cwV 1 hts (kx_gV kq_16_xentry_36 kq_16_xentry_37 kq_16_xentry_38 kq_16_xentry_2 kq_16_xentry_39 rfl) rfl rfl rfl (by decide +kernel) ⟨Nat.le_of_ble_eq_true rfl, Nat.le_of_ble_eq_true rfl⟩) ⟨pPre_blind, va_recv hK hPc (ci := 0) (q0 := 0) rfl rfl, pPre_give hPc hK hG⟩ rfl rfl hl.1 rfl (lv_room (Nat.le_of_ble_eq_true rfl)) dX0_makeKey_155 ⟨show (cv + dn_54) + 0 ≤ 20 from (by omega), show (sv + dm_55) + 0 ≤ 3500 from (by omega)⟩) hS (fun z_72 locs hq_71 hS => ?_)
                    refine W.eq (g2 := F0 m 158 ls [.int (iz z_72), .int (iz k), .ref (o 0)]) rfl ?_
                    try dsimp only at hq_71
                    try simp (decide := true) only [va_ev, ↓reduceIte] at hq_71
                    have hPc := hP.sub (ws' := (eU cI o (va_up r 2 r_56) (va_up n 2 n_57) (va_up z 2 z_58) (va_up F 2 F_59))) [0, 1, 2, 3, 4, 5, 6, 7, 8, 9, 10, 11, 12, 13, 14, 15] rfl
                    have hDc := hD.sub (ws' := (eU cI o (va_up r 2 r_56) (va_up n 2 n_57) (va_up z 2 z_58) (va_up F 2 F_59))) [0, 1, 2, 3, 4, 5, 6, 7, 8, 9, 10, 11, 12, 13, 14, 15] (by decide) rfl
                    have hFc := va_free (wc := (eU cI o (va_up r 2 r_56) (va_up n 2 n_57) (va_up z 2 z_58) (va_up F 2 F_59))) hD hS hA [0, 1, 2, 3, 4, 5, 6, 7, 8, 9, 10, 11, 12, 13, 14, 15] rfl
                    refine xk_call (va_runV (As := [.int (iz k), .int (iz z_72)]) (rest := []) ⟨hx, hb, hml, hown, hts⟩ (x_addNumber l dC dI cI cB cE o (va_up r 2 r_56) (va_up n 2 n_57) (va_up z 2 z_58) (va_up F 2 F_59) k z_72 H.size (hE.i 2 (by decide) (show 0 ≤ z_58 ∧ z_58 ≤ ((n_57 : Nat) : Int) ∧ ((n_57 : Nat) : Int) ≤ 40 by omega) hb60 (by omega)) (by omega) (by omega) (by omega) (by omega) (by omega) (by omega)) (cwV 2 hts (kx_gV kq_16_xentry_40 kq_16_xentry_41 kq_16_xentry_42 kq_16_xentry_2 kq_16_xentry_43 rfl) rfl rfl rfl (by decide +kernel) ⟨Nat.le_of_ble_eq_true rfl, Nat.le_of_ble_eq_true rfl⟩) ⟨kx_blind, va_recv hK hPc (ci := 0) (q0 := 0) rfl rfl, kx_give (ws := []) (tys := []) hPc hDc hK hG hZ hS hFc⟩ rfl rfl hl.1 rfl (lv_room (Nat.le_of_ble_eq_true rfl)) dX0_makeKey_158 ⟨show (cv + dn_54) + 10 ≤ 20 from (by omega), show (sv + dm_55) + 1720 ≤ 3500 from (by omega)⟩) hS (fun q _ h => hFc q h) hFc (fun u dn_74 dm_75 t H locs ht hvm hq_73 hB hk1 hS => ?_)
                    obtain ⟨r2_76, n2_77, z2_78, F2_79⟩ := u
                    obtain ⟨hP1, hK1, hD1⟩ := hB
                    rw [ht] at hP1
                    obtain ⟨hP, hD⟩ := xj (wr := []) (w1 := (eU cI o (va_up (va_up r 2 r_56) 2 r2_76) (va_up (va_up n 2 n_57) 2 n2_77) (va_up (va_up z 2 z_58) 2 z2_78) (va_up (va_up F 2 F_59) 2 F2_79))) (ws' := (eU cI o (va_up r 2 r2_76) (va_up n 2 n2_77) (va_up z 2 z2_78) (va_up F 2 F2_79))) hP hD [0, 1, 2, 3, 4, 5, 6, 7, 8, 9, 10, 11, 12, 13, 14, 15] [] [0, 1, 2, 3, 4, 5, 6, 7, 8, 9, 10, 11, 12, 13, 14, 15] rfl rfl (by decide) (by decide) hk1 hFc hP1 hD1 rfl (by decide)
                    refine W.eq (g2 := F0 m 161 ls []) rfl ?_
                    try dsimp only at hq_73
                    try simp (decide := true) only [va_ev, ↓reduceIte] at hq_73
                    obtain ⟨⟨ha80, hb80⟩, hc80⟩ := hq_73
                    refine lv_iinc (v := iz (k + 1)) (lv' := [(4, .int (iz (k + 1))), (3, .int (iz 0)), (5, .int (iz z_9)), (0, .ref (o 0)), (1, .int (iz p0)), (2, .int (iz p1))]) hx hb dX0_makeKey_161 hl (k := 2) rfl (iz_add k 1) (by decide) rfl (fun ls hl => ?_)
                    refine lv_goto (tgt := 12) hx hb dX0_makeKey_164 (by decide) ?_
                    exact ih12 0 (k + 1) r2_76 n2_77 z2_78 F2_79 ((cv + dn_54) + dn_74) ((sv + dm_55) + dm_75) ⟨by omega, by omega, by omega, hb80, by omega⟩ (by omega) _ _ hP hD hS ls (lv_sub hl [0, 1, 3, 4, 5] rfl)
              · skip
                refine lv_aload_n hx hb dX0_makeKey_119 rfl (lv_at hl 3 rfl) ?_
                refine lv_iload hx hb dX0_makeKey_120 (lv_at hl 2 rfl) ?_
                refine lv_iload hx hb dX0_makeKey_122 (lv_at hl 2 rfl) ?_
                refine lv_iconst (v := iz 1) hx hb dX0_makeKey_124 (by decide) ?_
                refine ki_iadd hx hb dX0_makeKey_125 ?_
                have hPc := hP.sub (ws' := (eU cI o (va_up r 2 r_56) (va_up n 2 n_57) (va_up z 2 z_58) (va_up F 2 F_59))) [0, 1, 2, 3, 4, 5, 6, 7, 8, 9, 10, 11, 12, 13, 14, 15] rfl
                have hDc := hD.sub (ws' := (eU cI o (va_up r 2 r_56) (va_up n 2 n_57) (va_up z 2 z_58) (va_up F 2 F_59))) [0, 1, 2, 3, 4, 5, 6, 7, 8, 9, 10, 11, 12, 13, 14, 15] (by decide) rfl
                have hFc := va_free (wc := (eU cI o (va_up r 2 r_56) (va_up n 2 n_57) (va_up z 2 z_58) (va_up F 2 F_59))) hD hS hA [0, 1, 2, 3, 4, 5, 6, 7, 8, 9, 10, 11, 12, 13, 14, 15] rfl
                refine xk_call (va_runV (As := [.int (iz k), .int (iz (k + 1))]) (rest := []) ⟨hx, hb, hml, hown, hts⟩ (x_addNumber l dC dI cI cB cE o (va_up r 2 r_56) (va_up n 2 n_57) (va_up z 2 z_58) (va_up F 2 F_59) k (k + 1) H.size (hE.i 2 (by decide) (show 0 ≤ z_58 ∧ z_58 ≤ ((n_57 : Nat) : Int) ∧ ((n_57 : Nat) : Int) ≤ 40 by omega) hb60 (by omega)) (by omega) (by omega) (by omega) (by omega) (by omega) (by omega)) (cwV 2 hts (kx_gV kq_16_xentry_40 kq_16_xentry_41 kq_16_xentry_42 kq_16_xentry_2 kq_16_xentry_43 rfl) rfl rfl rfl (by decide +kernel) ⟨Nat.le_of_ble_eq_true rfl, Nat.le_of_ble_eq_true rfl⟩) ⟨kx_blind, va_recv hK hPc (ci := 0) (q0 := 0) rfl rfl, kx_give (ws := []) (tys := []) hPc hDc hK hG hZ hS hFc⟩ rfl rfl hl.1 rfl (lv_room (Nat.le_of_ble_eq_true rfl)) dX0_makeKey_126 ⟨show (cv + dn_54) + 10 ≤ 20 from (by omega), show (sv + dm_55) + 1720 ≤ 3500 from (by omega)⟩) hS (fun q _ h => hFc q h) hFc (fun u dn_82 dm_83 t H locs ht hvm hq_81 hB hk1 hS => ?_)
                obtain ⟨r2_84, n2_85, z2_86, F2_87⟩ := u
                obtain ⟨hP1, hK1, hD1⟩ := hB
                rw [ht] at hP1
                obtain ⟨hP, hD⟩ := xj (wr := []) (w1 := (eU cI o (va_up (va_up r 2 r_56) 2 r2_84) (va_up (va_up n 2 n_57) 2 n2_85) (va_up (va_up z 2 z_58) 2 z2_86) (va_up (va_up F 2 F_59) 2 F2_87))) (ws' := (eU cI o (va_up r 2 r2_84) (va_up n 2 n2_85) (va_up z 2 z2_86) (va_up F 2 F2_87))) hP hD [0, 1, 2, 3, 4, 5, 6, 7, 8, 9, 10, 11, 12, 13, 14, 15] [] [0, 1, 2, 3, 4, 5, 6, 7, 8, 9, 10, 11, 12, 13, 14, 15] rfl rfl (by decide) (by decide) hk1 hFc hP1 hD1 rfl (by decide)
                refine W.eq (g2 := F0 m 129 ls []) rfl ?_
                try dsimp only at hq_81
                try simp (decide := true) only [va_ev, ↓reduceIte] at hq_81
                obtain ⟨⟨ha88, hb88⟩, hc88⟩ := hq_81
                refine lv_goto (tgt := 161) hx hb dX0_makeKey_129 (by decide) ?_
                refine lv_iinc (v := iz (k + 1)) (lv' := [(4, .int (iz (k + 1))), (3, .int (iz 0)), (5, .int (iz z_9)), (0, .ref (o 0)), (1, .int (iz p0)), (2, .int (iz p1))]) hx hb dX0_makeKey_161 hl (k := 2) rfl (iz_add k 1) (by decide) rfl (fun ls hl => ?_)
                refine lv_goto (tgt := 12) hx hb dX0_makeKey_164 (by decide) ?_
                exact ih12 0 (k + 1) r2_84 n2_85 z2_86 F2_87 ((cv + dn_54) + dn_82) ((sv + dm_55) + dm_83) ⟨by omega, by omega, by omega, hb88, by omega⟩ (by omega) _ _ hP hD hS ls (lv_sub hl [0, 1, 3, 4, 5] rfl)
            · skip
              refine lv_aload_n hx hb dX0_makeKey_96 rfl (lv_at hl 3 rfl) ?_
              refine va_get (D := (dC, dI)) (ci := 0) (v := .ref (o 3)) (C := RX0) (T := TX0) (N := 12) hx hb hts kt_X0 hown hK hP 0 rfl rfl 4 (by decide) (kx_word hG kq_16_xentry_22 rfl) (fun _ h9 => h9) rfl dX0_makeKey_97 ?_
              refine lv_iload hx hb dX0_makeKey_100 (lv_at hl 1 rfl) ?_
              refine lv_sipush (v := iz 128) hx hb dX0_makeKey_102 (by decide) ?_
              refine lv_irem hx hb dX0_makeKey_105 (show ¬ iz 128 = 0 by decide) ?_
              refine ki_any (fun z_89 hz_89a hz_89b => ?_)
              have hPc : va_P (dC, dI) kxCl [] H := fun k q h => by simp at h
              refine xk_pure (va_runS (As := [.int (iz z_89)]) (rest := [.ref (o 3)]) ⟨hx, hb, hml, hown, hts⟩ (x_smallOf l dC dI cI cB cE z_89 H.size (by omega) (by omega)) (va_cwS 1 hts (kx_gS kq_16_xentry_0 kq_16_xentry_1 kq_16_xentry_2 kq_16_xentry_3 rfl) rfl rfl rfl (by decide +kernel) ⟨Nat.le_of_ble_eq_true rfl, Nat.le_of_ble_eq_true rfl⟩) ⟨pPre_blind, pPre_give hPc hK hG⟩ rfl rfl hl.1 rfl (lv_room (Nat.le_of_ble_eq_true rfl)) dX0_makeKey_106 ⟨show (cv + dn_54) + 0 ≤ 20 from (by omega), show (sv + dm_55) + 0 ≤ 3500 from (by omega)⟩) hS (fun z_91 locs hq_90 hS => ?_)
              refine W.eq (g2 := F0 m 109 ls [.int (iz z_91), .ref (o 3)]) rfl ?_
              try dsimp only at hq_90
              have hPc := hP.sub (ws' := (iU cI 40 (o 3) r_56 n_57 z_58 F_59)) [5, 6] rfl
              have hDc := hD.sub (ws' := (iU cI 40 (o 3) r_56 n_57 z_58 F_59)) [5, 6] (by decide) rfl
              have hFc := va_free (wc := (iU cI 40 (o 3) r_56 n_57 z_58 F_59)) hD hS hA [5, 6] rfl
              refine xk_call (va_runV (As := [.int (iz z_91)]) (rest := []) ⟨hx, hb, hml, hown, hts⟩ (x_add l dC dI cI cB cE 40 (o 3) r_56 n_57 z_58 F_59 z_91 H.size (by omega) hb60 (by omega) (by omega)) (cwV 1 hts (kx_gV kq_16_xentry_5 kq_15_xspan_46 kq_15_xspan_47 kq_13_xints_6 kq_15_xspan_48 rfl) rfl rfl rfl (by decide +kernel) ⟨Nat.le_of_ble_eq_true rfl, Nat.le_of_ble_eq_true rfl⟩) ⟨kx_blind, va_recv hK hPc (ci := 1) (q0 := 0) rfl rfl, kx_give (ws := []) (tys := []) hPc hDc hK hG hZ hS hFc⟩ rfl rfl hl.1 rfl (lv_room (Nat.le_of_ble_eq_true rfl)) dX0_makeKey_109 ⟨show (cv + dn_54) + 1 ≤ 20 from (by omega), show (sv + dm_55) + 1600 ≤ 3500 from (by omega)⟩) hS (fun q _ h => hFc q h) hFc (fun u dn_93 dm_94 t H locs ht hvm hq_92 hB hk1 hS => ?_)
              obtain ⟨r_95, n_96, z_97, F_98⟩ := u
              obtain ⟨hP1, hK1, hD1⟩ := hB
              rw [ht] at hP1
              obtain ⟨hP, hD⟩ := xj (wr := [(o 0, .inr (0, [.int (iz (z 7)), .int (iz (z 8)), .ref (o 1), .ref (o 2), .ref (o 3), .ref (o 5), .ref (o 4), .int (iz (z 9)), .int (iz (z 10)), .int (iz (z 11)), .int (iz (z 12)), .int (iz (z 13))])), (o 1, .inr (1, [.int (iz 20), .ref (r 0), .int (iz (z 0))])), (r 0, .inl (cI, n 0, .inl (iA (F 0)))), (o 2, .inr (1, [.int (iz 20), .ref (r 1), .int (iz (z 1))])), (r 1, .inl (cI, n 1, .inl (iA (F 1)))), (o 4, .inr (1, [.int (iz 5), .ref (r 3), .int (iz (z 3))])), (r 3, .inl (cI, n 3, .inl (iA (F 3)))), (o 5, .inr (3, [.ref (o 6), .ref (o 7), .ref (o 8)])), (o 6, .inr (1, [.int (iz 20), .ref (r 4), .int (iz (z 4))])), (r 4, .inl (cI, n 4, .inl (iA (F 4)))), (o 7, .inr (1, [.int (iz 20), .ref (r 5), .int (iz (z 5))])), (r 5, .inl (cI, n 5, .inl (iA (F 5)))), (o 8, .inr (1, [.int (iz 20), .ref (r 6), .int (iz (z 6))])), (r 6, .inl (cI, n 6, .inl (iA (F 6))))]) (w1 := (iU cI 40 (o 3) r_95 n_96 z_97 F_98)) (ws' := (eU cI o (va_up r 2 r_95) (va_up n 2 n_96) (va_up z 2 z_97) (va_up F 2 F_98))) hP hD [5, 6] [0, 1, 2, 3, 4, 7, 8, 9, 10, 11, 12, 13, 14, 15] [0, 1, 2, 3, 4, 14, 15, 5, 6, 7, 8, 9, 10, 11, 12, 13] rfl rfl (by decide) (by decide) hk1 hFc hP1 hD1 rfl (by decide)
              refine W.eq (g2 := F0 m 112 ls []) rfl ?_
              try dsimp only at hq_92
              obtain ⟨ha99, hb99, hc99, hd99⟩ := hq_92
              refine lv_goto (tgt := 161) hx hb dX0_makeKey_112 (by decide) ?_
              refine lv_iinc (v := iz (k + 1)) (lv' := [(4, .int (iz (k + 1))), (3, .int (iz 0)), (5, .int (iz z_9)), (0, .ref (o 0)), (1, .int (iz p0)), (2, .int (iz p1))]) hx hb dX0_makeKey_161 hl (k := 2) rfl (iz_add k 1) (by decide) rfl (fun ls hl => ?_)
              refine lv_goto (tgt := 12) hx hb dX0_makeKey_164 (by decide) ?_
              exact ih12 0 (k + 1) r_95 n_96 z_97 F_98 ((cv + dn_54) + dn_93) ((sv + dm_55) + dm_94) ⟨by omega, by omega, by omega, hb99, by omega⟩ (by omega) _ _ hP hD hS ls (lv_sub hl [0, 1, 3, 4, 5] rfl)
        · skip
          refine lv_iload hx hb dX0_makeKey_43 (lv_at hl 0 rfl) ?_
          have hPc : va_P (dC, dI) kxCl [] H := fun k q h => by simp at h
          refine xk_pure (va_runS (As := [.int (iz z_9)]) (rest := []) ⟨hx, hb, hml, hown, hts⟩ (x_isDigit l dC dI cI cB cE z_9 H.size (by omega) (by omega)) (va_cwS 1 hts (kx_gS kq_16_xentry_29 kq_16_xentry_30 kq_16_xentry_2 kq_16_xentry_31 rfl) rfl rfl rfl (by decide +kernel) ⟨Nat.le_of_ble_eq_true rfl, Nat.le_of_ble_eq_true rfl⟩) ⟨pPre_blind, pPre_give hPc hK hG⟩ rfl rfl hl.1 rfl (lv_room (Nat.le_of_ble_eq_true rfl)) dX0_makeKey_45 ⟨show cv + 0 ≤ 20 from (by omega), show sv + 0 ≤ 3500 from (by omega)⟩) hS (fun z_101 locs hq_100 hS => ?_)
          refine W.eq (g2 := F0 m 48 ls [.int (iz z_101)]) rfl ?_
          try dsimp only at hq_100
          rcases hq_100 with ⟨rfl, hq_100⟩ | ⟨rfl, hq_100⟩
          · skip
            refine ki_if_ne (tgt := 74) hx hb dX0_makeKey_48 (by decide) (by omega) (by omega) (fun c_102 => ?_) (fun c_102 => ?_)
            · skip
              refine lv_iload_n hx hb dX0_makeKey_74 rfl (lv_at hl 2 rfl) ?_
              refine ki_if_eq (tgt := 88) hx hb dX0_makeKey_75 (by decide) (by omega) (by omega) (fun c_103 => ?_) (fun c_103 => ?_)
              · skip
                refine lv_iload hx hb dX0_makeKey_88 (lv_at hl 0 rfl) ?_
                have hPc : va_P (dC, dI) kxCl [] H := fun k q h => by simp at h
                refine xk_pure (va_runS (As := [.int (iz z_9)]) (rest := []) ⟨hx, hb, hml, hown, hts⟩ (x_isLetter l dC dI cI cB cE z_9 H.size (by omega) (by omega)) (va_cwS 1 hts (kx_gS kq_16_xentry_33 kq_16_xentry_34 kq_16_xentry_2 kq_16_xentry_35 rfl) rfl rfl rfl (by decide +kernel) ⟨Nat.le_of_ble_eq_true rfl, Nat.le_of_ble_eq_true rfl⟩) ⟨pPre_blind, pPre_give hPc hK hG⟩ rfl rfl hl.1 rfl (lv_room (Nat.le_of_ble_eq_true rfl)) dX0_makeKey_90 ⟨show cv + 0 ≤ 20 from (by omega), show sv + 0 ≤ 3500 from (by omega)⟩) hS (fun z_105 locs hq_104 hS => ?_)
                refine W.eq (g2 := F0 m 93 ls [.int (iz z_105)]) rfl ?_
                try dsimp only at hq_104
                refine ki_if_eq (tgt := 115) hx hb dX0_makeKey_93 (by decide) (by omega) (by omega) (fun c_106 => ?_) (fun c_106 => ?_)
                · skip
                  refine lv_iload_n hx hb dX0_makeKey_115 rfl (lv_at hl 4 rfl) ?_
                  refine ki_if_ne (tgt := 132) hx hb dX0_makeKey_116 (by decide) (by omega) (by omega) (fun c_107 => ?_) (fun c_107 => ?_)
                  · skip
                    refine lv_aload_n hx hb dX0_makeKey_132 rfl (lv_at hl 3 rfl) ?_
                    refine va_get (D := (dC, dI)) (ci := 0) (v := .ref (o 1)) (C := RX0) (T := TX0) (N := 12) hx hb hts kt_X0 hown hK hP 0 rfl rfl 2 (by decide) (kx_word hG kq_16_xentry_4 rfl) (fun _ h9 => h9) rfl dX0_makeKey_133 ?_
                    refine lv_iload hx hb dX0_makeKey_136 (lv_at hl 1 rfl) ?_
                    refine lv_iconst (v := iz 1) hx hb dX0_makeKey_138 (by decide) ?_
                    refine ki_isub hx hb dX0_makeKey_139 ?_
                    have hPc := hP.sub (ws' := (iU cI 20 (o 1) (r 0) (n 0) (z 0) (F 0))) [1, 2] rfl
                    refine xk_pure (va_runV (As := [.int (iz (k - 1))]) (rest := []) ⟨hx, hb, hml, hown, hts⟩ (x_get l dC dI cI cB cE 20 (o 1) (r 0) (n 0) (z 0) (F 0) (k - 1) H.size (by omega) (hE.2.1 0) (by omega) (by omega)) (cwV 1 hts (kx_gV kq_16_xentry_24 kq_13_xints_4 kq_13_xints_5 kq_13_xints_6 kq_13_xints_7 rfl) rfl rfl rfl (by decide +kernel) ⟨Nat.le_of_ble_eq_true rfl, Nat.le_of_ble_eq_true rfl⟩) ⟨pPre_blind, va_recv hK hPc (ci := 1) (q0 := 0) rfl rfl, pPre_give hPc hK hG⟩ rfl rfl hl.1 rfl (lv_room (Nat.le_of_ble_eq_true rfl)) dX0_makeKey_140 ⟨show cv + 0 ≤ 20 from (by omega), show sv + 0 ≤ 3500 from (by omega)⟩) hS (fun z_109 locs hq_108 hS => ?_)
                    refine W.eq (g2 := F0 m 143 ls [.int (iz z_109)]) rfl ?_
                    try dsimp only at hq_108
                    have hPc : va_P (dC, dI) kxCl [] H := fun k q h => by simp at h
                    refine xk_pure (va_runS (As := [.int (iz z_109)]) (rest := []) ⟨hx, hb, hml, hown, hts⟩ (x_isDigit l dC dI cI cB cE z_109 H.size (by omega) (by omega)) (va_cwS 1 hts (kx_gS kq_16_xentry_29 kq_16_xentry_30 kq_16_xentry_2 kq_16_xentry_31 rfl) rfl rfl rfl (by decide +kernel) ⟨Nat.le_of_ble_eq_true rfl, Nat.le_of_ble_eq_true rfl⟩) ⟨pPre_blind, pPre_give hPc hK hG⟩ rfl rfl hl.1 rfl (lv_room (Nat.le_of_ble_eq_true rfl)) dX0_makeKey_143 ⟨show cv + 0 ≤ 20 from (by omega), show sv + 0 ≤ 3500 from (by omega)⟩) hS (fun z_111 locs hq_110 hS => ?_)
                    refine W.eq (g2 := F0 m 146 ls [.int (iz z_111)]) rfl ?_
                    try dsimp only at hq_110
                    rcases hq_110 with ⟨rfl, hq_110⟩ | ⟨rfl, hq_110⟩
                    · skip
                      refine ki_if_ne (tgt := 161) hx hb dX0_makeKey_146 (by decide) (by omega) (by omega) (fun c_112 => ?_) (fun c_112 => ?_)
                      · skip
                        refine lv_iinc (v := iz (k + 1)) (lv' := [(4, .int (iz (k + 1))), (5, .int (iz z_9)), (3, .int (iz bd)), (0, .ref (o 0)), (1, .int (iz p0)), (2, .int (iz p1))]) hx hb dX0_makeKey_161 hl (k := 1) rfl (iz_add k 1) (by decide) rfl (fun ls hl => ?_)
                        refine lv_goto (tgt := 12) hx hb dX0_makeKey_164 (by decide) ?_
                        exact ih12 bd (k + 1) rv nv zv Fv cv sv ⟨by omega, by omega, by omega, hFv, by omega⟩ (by omega) _ _ hP hD hS ls (lv_sub hl [0, 2, 3, 4, 5] rfl)
                      · omega
                    · skip
                      refine ki_if_ne (tgt := 161) hx hb dX0_makeKey_146 (by decide) (by omega) (by omega) (fun c_113 => ?_) (fun c_113 => ?_)
                      · omega
                      · skip
                        refine lv_aload_n hx hb dX0_makeKey_149 rfl (lv_at hl 3 rfl) ?_
                        refine lv_iload hx hb dX0_makeKey_150 (lv_at hl 1 rfl) ?_
                        refine lv_aload_n hx hb dX0_makeKey_152 rfl (lv_at hl 3 rfl) ?_
                        refine lv_iload hx hb dX0_makeKey_153 (lv_at hl 1 rfl) ?_
                        have hPc := hP.sub (ws' := (eU cI o (va_up r 2 rv) (va_up n 2 nv) (va_up z 2 zv) (va_up F 2 Fv))) [0, 1, 2, 3, 4, 5, 6, 7, 8, 9, 10, 11, 12, 13, 14, 15] rfl
                        refine xk_pure (va_runV (As := [.int (iz k)]) (rest := [.int (iz k), .ref (o 0)]) ⟨hx, hb, hml, hown, hts⟩ (x_digitsEnd l dC dI cI cB cE o (va_up r 2 rv) (va_up n 2 nv) (va_up z 2 zv) (va_up F 2 Fv) k H.size (hE.i 2 (by decide) (show 0 ≤ zv ∧ zv ≤ ((nv : Nat) : Int) ∧ ((nv : Nat) : Int) ≤ 40 by omega) hFv (by omega)) (by omega) (by omega) (by omega)) (cwV 1 hts (kx_gV kq_16_xentry_36 kq_16_xentry_37 kq_16_xentry_38 kq_16_xentry_2 kq_16_xentry_39 rfl) rfl rfl rfl (by decide +kernel) ⟨Nat.le_of_ble_eq_true rfl, Nat.le_of_ble_eq_true rfl⟩) ⟨pPre_blind, va_recv hK hPc (ci := 0) (q0 := 0) rfl rfl, pPre_give hPc hK hG⟩ rfl rfl hl.1 rfl (lv_room (Nat.le_of_ble_eq_true rfl)) dX0_makeKey_155 ⟨show cv + 0 ≤ 20 from (by omega), show sv + 0 ≤ 3500 from (by omega)⟩) hS (fun z_115 locs hq_114 hS => ?_)
                        refine W.eq (g2 := F0 m 158 ls [.int (iz z_115), .int (iz k), .ref (o 0)]) rfl ?_
                        try dsimp only at hq_114
                        try simp (decide := true) only [va_ev, ↓reduceIte] at hq_114
                        have hPc := hP.sub (ws' := (eU cI o (va_up r 2 rv) (va_up n 2 nv) (va_up z 2 zv) (va_up F 2 Fv))) [0, 1, 2, 3, 4, 5, 6, 7, 8, 9, 10, 11, 12, 13, 14, 15] rfl
                        have hDc := hD.sub (ws' := (eU cI o (va_up r 2 rv) (va_up n 2 nv) (va_up z 2 zv) (va_up F 2 Fv))) [0, 1, 2, 3, 4, 5, 6, 7, 8, 9, 10, 11, 12, 13, 14, 15] (by decide) rfl
                        have hFc := va_free (wc := (eU cI o (va_up r 2 rv) (va_up n 2 nv) (va_up z 2 zv) (va_up F 2 Fv))) hD hS hA [0, 1, 2, 3, 4, 5, 6, 7, 8, 9, 10, 11, 12, 13, 14, 15] rfl
                        refine xk_call (va_runV (As := [.int (iz k), .int (iz z_115)]) (rest := []) ⟨hx, hb, hml, hown, hts⟩ (x_addNumber l dC dI cI cB cE o (va_up r 2 rv) (va_up n 2 nv) (va_up z 2 zv) (va_up F 2 Fv) k z_115 H.size (hE.i 2 (by decide) (show 0 ≤ zv ∧ zv ≤ ((nv : Nat) : Int) ∧ ((nv : Nat) : Int) ≤ 40 by omega) hFv (by omega)) (by omega) (by omega) (by omega) (by omega) (by omega) (by omega)) (cwV 2 hts (kx_gV kq_16_xentry_40 kq_16_xentry_41 kq_16_xentry_42 kq_16_xentry_2 kq_16_xentry_43 rfl) rfl rfl rfl (by decide +kernel) ⟨Nat.le_of_ble_eq_true rfl, Nat.le_of_ble_eq_true rfl⟩) ⟨kx_blind, va_recv hK hPc (ci := 0) (q0 := 0) rfl rfl, kx_give (ws := []) (tys := []) hPc hDc hK hG hZ hS hFc⟩ rfl rfl hl.1 rfl (lv_room (Nat.le_of_ble_eq_true rfl)) dX0_makeKey_158 ⟨show cv + 10 ≤ 20 from (by omega), show sv + 1720 ≤ 3500 from (by omega)⟩) hS (fun q _ h => hFc q h) hFc (fun u dn_117 dm_118 t H locs ht hvm hq_116 hB hk1 hS => ?_)
                        obtain ⟨r2_119, n2_120, z2_121, F2_122⟩ := u
                        obtain ⟨hP1, hK1, hD1⟩ := hB
                        rw [ht] at hP1
                        obtain ⟨hP, hD⟩ := xj (wr := []) (w1 := (eU cI o (va_up (va_up r 2 rv) 2 r2_119) (va_up (va_up n 2 nv) 2 n2_120) (va_up (va_up z 2 zv) 2 z2_121) (va_up (va_up F 2 Fv) 2 F2_122))) (ws' := (eU cI o (va_up r 2 r2_119) (va_up n 2 n2_120) (va_up z 2 z2_121) (va_up F 2 F2_122))) hP hD [0, 1, 2, 3, 4, 5, 6, 7, 8, 9, 10, 11, 12, 13, 14, 15] [] [0, 1, 2, 3, 4, 5, 6, 7, 8, 9, 10, 11, 12, 13, 14, 15] rfl rfl (by decide) (by decide) hk1 hFc hP1 hD1 rfl (by decide)
                        refine W.eq (g2 := F0 m 161 ls []) rfl ?_
                        try dsimp only at hq_116
                        try simp (decide := true) only [va_ev, ↓reduceIte] at hq_116
                        obtain ⟨⟨ha123, hb123⟩, hc123⟩ := hq_116
                        refine lv_iinc (v := iz (k + 1)) (lv' := [(4, .int (iz (k + 1))), (5, .int (iz z_9)), (3, .int (iz bd)), (0, .ref (o 0)), (1, .int (iz p0)), (2, .int (iz p1))]) hx hb dX0_makeKey_161 hl (k := 1) rfl (iz_add k 1) (by decide) rfl (fun ls hl => ?_)
                        refine lv_goto (tgt := 12) hx hb dX0_makeKey_164 (by decide) ?_
                        exact ih12 bd (k + 1) r2_119 n2_120 z2_121 F2_122 (cv + dn_117) (sv + dm_118) ⟨by omega, by omega, by omega, hb123, by omega⟩ (by omega) _ _ hP hD hS ls (lv_sub hl [0, 2, 3, 4, 5] rfl)
                  · skip
                    refine lv_aload_n hx hb dX0_makeKey_119 rfl (lv_at hl 3 rfl) ?_
                    refine lv_iload hx hb dX0_makeKey_120 (lv_at hl 1 rfl) ?_
                    refine lv_iload hx hb dX0_makeKey_122 (lv_at hl 1 rfl) ?_
                    refine lv_iconst (v := iz 1) hx hb dX0_makeKey_124 (by decide) ?_
                    refine ki_iadd hx hb dX0_makeKey_125 ?_
                    have hPc := hP.sub (ws' := (eU cI o (va_up r 2 rv) (va_up n 2 nv) (va_up z 2 zv) (va_up F 2 Fv))) [0, 1, 2, 3, 4, 5, 6, 7, 8, 9, 10, 11, 12, 13, 14, 15] rfl
                    have hDc := hD.sub (ws' := (eU cI o (va_up r 2 rv) (va_up n 2 nv) (va_up z 2 zv) (va_up F 2 Fv))) [0, 1, 2, 3, 4, 5, 6, 7, 8, 9, 10, 11, 12, 13, 14, 15] (by decide) rfl
                    have hFc := va_free (wc := (eU cI o (va_up r 2 rv) (va_up n 2 nv) (va_up z 2 zv) (va_up F 2 Fv))) hD hS hA [0, 1, 2, 3, 4, 5, 6, 7, 8, 9, 10, 11, 12, 13, 14, 15] rfl
                    refine xk_call (va_runV (As := [.int (iz k), .int (iz (k + 1))]) (rest := []) ⟨hx, hb, hml, hown, hts⟩ (x_addNumber l dC dI cI cB cE o (va_up r 2 rv) (va_up n 2 nv) (va_up z 2 zv) (va_up F 2 Fv) k (k + 1) H.size (hE.i 2 (by decide) (show 0 ≤ zv ∧ zv ≤ ((nv : Nat) : Int) ∧ ((nv : Nat) : Int) ≤ 40 by omega) hFv (by omega)) (by omega) (by omega) (by omega) (by omega) (by omega) (by omega)) (cwV 2 hts (kx_gV kq_16_xentry_40 kq_16_xentry_41 kq_16_xentry_42 kq_16_xentry_2 kq_16_xentry_43 rfl) rfl rfl rfl (by decide +kernel) ⟨Nat.le_of_ble_eq_true rfl, Nat.le_of_ble_eq_true rfl⟩) ⟨kx_blind, va_recv hK hPc (ci := 0) (q0 := 0) rfl rfl, kx_give (ws := []) (tys := []) hPc hDc hK hG hZ hS hFc⟩ rfl rfl hl.1 rfl (lv_room (Nat.le_of_ble_eq_true rfl)) dX0_makeKey_126 ⟨show cv + 10 ≤ 20 from (by omega), show sv + 1720 ≤ 3500 from (by omega)⟩) hS (fun q _ h => hFc q h) hFc (fun u dn_125 dm_126 t H locs ht hvm hq_124 hB hk1 hS => ?_)
                    obtain ⟨r2_127, n2_128, z2_129, F2_130⟩ := u
                    obtain ⟨hP1, hK1, hD1⟩ := hB
                    rw [ht] at hP1
                    obtain ⟨hP, hD⟩ := xj (wr := []) (w1 := (eU cI o (va_up (va_up r 2 rv) 2 r2_127) (va_up (va_up n 2 nv) 2 n2_128) (va_up (va_up z 2 zv) 2 z2_129) (va_up (va_up F 2 Fv) 2 F2_130))) (ws' := (eU cI o (va_up r 2 r2_127) (va_up n 2 n2_128) (va_up z 2 z2_129) (va_up F 2 F2_130))) hP hD [0, 1, 2, 3, 4, 5, 6, 7, 8, 9, 10, 11, 12, 13, 14, 15] [] [0, 1, 2, 3, 4, 5, 6, 7, 8, 9, 10, 11, 12, 13, 14, 15] rfl rfl (by decide) (by decide) hk1 hFc hP1 hD1 rfl (by decide)
                    refine W.eq (g2 := F0 m 129 ls []) rfl ?_
                    try dsimp only at hq_124
                    try simp (decide := true) only [va_ev, ↓reduceIte] at hq_124
                    obtain ⟨⟨ha131, hb131⟩, hc131⟩ := hq_124
                    refine lv_goto (tgt := 161) hx hb dX0_makeKey_129 (by decide) ?_
                    refine lv_iinc (v := iz (k + 1)) (lv' := [(4, .int (iz (k + 1))), (5, .int (iz z_9)), (3, .int (iz bd)), (0, .ref (o 0)), (1, .int (iz p0)), (2, .int (iz p1))]) hx hb dX0_makeKey_161 hl (k := 1) rfl (iz_add k 1) (by decide) rfl (fun ls hl => ?_)
                    refine lv_goto (tgt := 12) hx hb dX0_makeKey_164 (by decide) ?_
                    exact ih12 bd (k + 1) r2_127 n2_128 z2_129 F2_130 (cv + dn_125) (sv + dm_126) ⟨by omega, by omega, by omega, hb131, by omega⟩ (by omega) _ _ hP hD hS ls (lv_sub hl [0, 2, 3, 4, 5] rfl)
                · skip
                  refine lv_aload_n hx hb dX0_makeKey_96 rfl (lv_at hl 3 rfl) ?_
                  refine va_get (D := (dC, dI)) (ci := 0) (v := .ref (o 3)) (C := RX0) (T := TX0) (N := 12) hx hb hts kt_X0 hown hK hP 0 rfl rfl 4 (by decide) (kx_word hG kq_16_xentry_22 rfl) (fun _ h9 => h9) rfl dX0_makeKey_97 ?_
                  refine lv_iload hx hb dX0_makeKey_100 (lv_at hl 0 rfl) ?_
                  refine lv_sipush (v := iz 128) hx hb dX0_makeKey_102 (by decide) ?_
                  refine lv_irem hx hb dX0_makeKey_105 (show ¬ iz 128 = 0 by decide) ?_
                  refine ki_any (fun z_132 hz_132a hz_132b => ?_)
                  have hPc : va_P (dC, dI) kxCl [] H := fun k q h => by simp at h
                  refine xk_pure (va_runS (As := [.int (iz z_132)]) (rest := [.ref (o 3)]) ⟨hx, hb, hml, hown, hts⟩ (x_smallOf l dC dI cI cB cE z_132 H.size (by omega) (by omega)) (va_cwS 1 hts (kx_gS kq_16_xentry_0 kq_16_xentry_1 kq_16_xentry_2 kq_16_xentry_3 rfl) rfl rfl rfl (by decide +kernel) ⟨Nat.le_of_ble_eq_true rfl, Nat.le_of_ble_eq_true rfl⟩) ⟨pPre_blind, pPre_give hPc hK hG⟩ rfl rfl hl.1 rfl (lv_room (Nat.le_of_ble_eq_true rfl)) dX0_makeKey_106 ⟨show cv + 0 ≤ 20 from (by omega), show sv + 0 ≤ 3500 from (by omega)⟩) hS (fun z_134 locs hq_133 hS => ?_)
                  refine W.eq (g2 := F0 m 109 ls [.int (iz z_134), .ref (o 3)]) rfl ?_
                  try dsimp only at hq_133
                  have hPc := hP.sub (ws' := (iU cI 40 (o 3) rv nv zv Fv)) [5, 6] rfl
                  have hDc := hD.sub (ws' := (iU cI 40 (o 3) rv nv zv Fv)) [5, 6] (by decide) rfl
                  have hFc := va_free (wc := (iU cI 40 (o 3) rv nv zv Fv)) hD hS hA [5, 6] rfl
                  refine xk_call (va_runV (As := [.int (iz z_134)]) (rest := []) ⟨hx, hb, hml, hown, hts⟩ (x_add l dC dI cI cB cE 40 (o 3) rv nv zv Fv z_134 H.size (by omega) hFv (by omega) (by omega)) (cwV 1 hts (kx_gV kq_16_xentry_5 kq_15_xspan_46 kq_15_xspan_47 kq_13_xints_6 kq_15_xspan_48 rfl) rfl rfl rfl (by decide +kernel) ⟨Nat.le_of_ble_eq_true rfl, Nat.le_of_ble_eq_true rfl⟩) ⟨kx_blind, va_recv hK hPc (ci := 1) (q0 := 0) rfl rfl, kx_give (ws := []) (tys := []) hPc hDc hK hG hZ hS hFc⟩ rfl rfl hl.1 rfl (lv_room (Nat.le_of_ble_eq_true rfl)) dX0_makeKey_109 ⟨show cv + 1 ≤ 20 from (by omega), show sv + 1600 ≤ 3500 from (by omega)⟩) hS (fun q _ h => hFc q h) hFc (fun u dn_136 dm_137 t H locs ht hvm hq_135 hB hk1 hS => ?_)
                  obtain ⟨r_138, n_139, z_140, F_141⟩ := u
                  obtain ⟨hP1, hK1, hD1⟩ := hB
                  rw [ht] at hP1
                  obtain ⟨hP, hD⟩ := xj (wr := [(o 0, .inr (0, [.int (iz (z 7)), .int (iz (z 8)), .ref (o 1), .ref (o 2), .ref (o 3), .ref (o 5), .ref (o 4), .int (iz (z 9)), .int (iz (z 10)), .int (iz (z 11)), .int (iz (z 12)), .int (iz (z 13))])), (o 1, .inr (1, [.int (iz 20), .ref (r 0), .int (iz (z 0))])), (r 0, .inl (cI, n 0, .inl (iA (F 0)))), (o 2, .inr (1, [.int (iz 20), .ref (r 1), .int (iz (z 1))])), (r 1, .inl (cI, n 1, .inl (iA (F 1)))), (o 4, .inr (1, [.int (iz 5), .ref (r 3), .int (iz (z 3))])), (r 3, .inl (cI, n 3, .inl (iA (F 3)))), (o 5, .inr (3, [.ref (o 6), .ref (o 7), .ref (o 8)])), (o 6, .inr (1, [.int (iz 20), .ref (r 4), .int (iz (z 4))])), (r 4, .inl (cI, n 4, .inl (iA (F 4)))), (o 7, .inr (1, [.int (iz 20), .ref (r 5), .int (iz (z 5))])), (r 5, .inl (cI, n 5, .inl (iA (F 5)))), (o 8, .inr (1, [.int (iz 20), .ref (r 6), .int (iz (z 6))])), (r 6, .inl (cI, n 6, .inl (iA (F 6))))]) (w1 := (iU cI 40 (o 3) r_138 n_139 z_140 F_141)) (ws' := (eU cI o (va_up r 2 r_138) (va_up n 2 n_139) (va_up z 2 z_140) (va_up F 2 F_141))) hP hD [5, 6] [0, 1, 2, 3, 4, 7, 8, 9, 10, 11, 12, 13, 14, 15] [0, 1, 2, 3, 4, 14, 15, 5, 6, 7, 8, 9, 10, 11, 12, 13] rfl rfl (by decide) (by decide) hk1 hFc hP1 hD1 rfl (by decide)
                  refine W.eq (g2 := F0 m 112 ls []) rfl ?_
                  try dsimp only at hq_135
                  obtain ⟨ha142, hb142, hc142, hd142⟩ := hq_135
                  refine lv_goto (tgt := 161) hx hb dX0_makeKey_112 (by decide) ?_
                  refine lv_iinc (v := iz (k + 1)) (lv' := [(4, .int (iz (k + 1))), (5, .int (iz z_9)), (3, .int (iz bd)), (0, .ref (o 0)), (1, .int (iz p0)), (2, .int (iz p1))]) hx hb dX0_makeKey_161 hl (k := 1) rfl (iz_add k 1) (by decide) rfl (fun ls hl => ?_)
                  refine lv_goto (tgt := 12) hx hb dX0_makeKey_164 (by decide) ?_
                  exact ih12 bd (k + 1) r_138 n_139 z_140 F_141 (cv + dn_136) (sv + dm_137) ⟨by omega, by omega, by omega, hb142, by omega⟩ (by omega) _ _ hP hD hS ls (lv_sub hl [0, 2, 3, 4, 5] rfl)
              · skip
                refine lv_aload_n hx hb dX0_makeKey_78 rfl (lv_at hl 3 rfl) ?_
                refine va_get (D := (dC, dI)) (ci := 0) (v := .ref (o 3)) (C := RX0) (T := TX0) (N := 12) hx hb hts kt_X0 hown hK hP 0 rfl rfl 4 (by decide) (kx_word hG kq_16_xentry_22 rfl) (fun _ h9 => h9) rfl dX0_makeKey_79 ?_
                refine lv_iconst (v := iz 1) hx hb dX0_makeKey_82 (by decide) ?_
                have hPc := hP.sub (ws' := (iU cI 40 (o 3) rv nv zv Fv)) [5, 6] rfl
                have hDc := hD.sub (ws' := (iU cI 40 (o 3) rv nv zv Fv)) [5, 6] (by decide) rfl
                have hFc := va_free (wc := (iU cI 40 (o 3) rv nv zv Fv)) hD hS hA [5, 6] rfl
                refine xk_call (va_runV (As := [.int (iz 1)]) (rest := []) ⟨hx, hb, hml, hown, hts⟩ (x_add l dC dI cI cB cE 40 (o 3) rv nv zv Fv 1 H.size (by omega) hFv (by omega) (by omega)) (cwV 1 hts (kx_gV kq_16_xentry_5 kq_15_xspan_46 kq_15_xspan_47 kq_13_xints_6 kq_15_xspan_48 rfl) rfl rfl rfl (by decide +kernel) ⟨Nat.le_of_ble_eq_true rfl, Nat.le_of_ble_eq_true rfl⟩) ⟨kx_blind, va_recv hK hPc (ci := 1) (q0 := 0) rfl rfl, kx_give (ws := []) (tys := []) hPc hDc hK hG hZ hS hFc⟩ rfl rfl hl.1 rfl (lv_room (Nat.le_of_ble_eq_true rfl)) dX0_makeKey_83 ⟨show cv + 1 ≤ 20 from (by omega), show sv + 1600 ≤ 3500 from (by omega)⟩) hS (fun q _ h => hFc q h) hFc (fun u dn_144 dm_145 t H locs ht hvm hq_143 hB hk1 hS => ?_)
                obtain ⟨r_146, n_147, z_148, F_149⟩ := u
                obtain ⟨hP1, hK1, hD1⟩ := hB
                rw [ht] at hP1
                obtain ⟨hP, hD⟩ := xj (wr := [(o 0, .inr (0, [.int (iz (z 7)), .int (iz (z 8)), .ref (o 1), .ref (o 2), .ref (o 3), .ref (o 5), .ref (o 4), .int (iz (z 9)), .int (iz (z 10)), .int (iz (z 11)), .int (iz (z 12)), .int (iz (z 13))])), (o 1, .inr (1, [.int (iz 20), .ref (r 0), .int (iz (z 0))])), (r 0, .inl (cI, n 0, .inl (iA (F 0)))), (o 2, .inr (1, [.int (iz 20), .ref (r 1), .int (iz (z 1))])), (r 1, .inl (cI, n 1, .inl (iA (F 1)))), (o 4, .inr (1, [.int (iz 5), .ref (r 3), .int (iz (z 3))])), (r 3, .inl (cI, n 3, .inl (iA (F 3)))), (o 5, .inr (3, [.ref (o 6), .ref (o 7), .ref (o 8)])), (o 6, .inr (1, [.int (iz 20), .ref (r 4), .int (iz (z 4))])), (r 4, .inl (cI, n 4, .inl (iA (F 4)))), (o 7, .inr (1, [.int (iz 20), .ref (r 5), .int (iz (z 5))])), (r 5, .inl (cI, n 5, .inl (iA (F 5)))), (o 8, .inr (1, [.int (iz 20), .ref (r 6), .int (iz (z 6))])), (r 6, .inl (cI, n 6, .inl (iA (F 6))))]) (w1 := (iU cI 40 (o 3) r_146 n_147 z_148 F_149)) (ws' := (eU cI o (va_up r 2 r_146) (va_up n 2 n_147) (va_up z 2 z_148) (va_up F 2 F_149))) hP hD [5, 6] [0, 1, 2, 3, 4, 7, 8, 9, 10, 11, 12, 13, 14, 15] [0, 1, 2, 3, 4, 14, 15, 5, 6, 7, 8, 9, 10, 11, 12, 13] rfl rfl (by decide) (by decide) hk1 hFc hP1 hD1 rfl (by decide)
                refine W.eq (g2 := F0 m 86 ls []) rfl ?_
                try dsimp only at hq_143
                obtain ⟨ha150, hb150, hc150, hd150⟩ := hq_143
                refine lv_iconst (v := iz 0) hx hb dX0_makeKey_86 (by decide) ?_
                refine lv_istore_n (lv' := [(3, .int (iz 0)), (5, .int (iz z_9)), (4, .int (iz k)), (0, .ref (o 0)), (1, .int (iz p0)), (2, .int (iz p1))]) hx hb dX0_makeKey_87 rfl hl (by decide) rfl (fun ls hl => ?_)
                refine lv_iload hx hb dX0_makeKey_88 (lv_at hl 1 rfl) ?_
                have hPc : va_P (dC, dI) kxCl [] H := fun k q h => by simp at h
                refine xk_pure (va_runS (As := [.int (iz z_9)]) (rest := []) ⟨hx, hb, hml, hown, hts⟩ (x_isLetter l dC dI cI cB cE z_9 H.size (by omega) (by omega)) (va_cwS 1 hts (kx_gS kq_16_xentry_33 kq_16_xentry_34 kq_16_xentry_2 kq_16_xentry_35 rfl) rfl rfl rfl (by decide +kernel) ⟨Nat.le_of_ble_eq_true rfl, Nat.le_of_ble_eq_true rfl⟩) ⟨pPre_blind, pPre_give hPc hK hG⟩ rfl rfl hl.1 rfl (lv_room (Nat.le_of_ble_eq_true rfl)) dX0_makeKey_90 ⟨show (cv + dn_144) + 0 ≤ 20 from (by omega), show (sv + dm_145) + 0 ≤ 3500 from (by omega)⟩) hS (fun z_152 locs hq_151 hS => ?_)
                refine W.eq (g2 := F0 m 93 ls [.int (iz z_152)]) rfl ?_
                try dsimp only at hq_151
                refine ki_if_eq (tgt := 115) hx hb dX0_makeKey_93 (by decide) (by omega) (by omega) (fun c_153 => ?_) (fun c_153 => ?_)
                · skip
                  refine lv_iload_n hx hb dX0_makeKey_115 rfl (lv_at hl 4 rfl) ?_
                  refine ki_if_ne (tgt := 132) hx hb dX0_makeKey_116 (by decide) (by omega) (by omega) (fun c_154 => ?_) (fun c_154 => ?_)
                  · skip
                    refine lv_aload_n hx hb dX0_makeKey_132 rfl (lv_at hl 3 rfl) ?_
                    refine va_get (D := (dC, dI)) (ci := 0) (v := .ref (o 1)) (C := RX0) (T := TX0) (N := 12) hx hb hts kt_X0 hown hK hP 0 rfl rfl 2 (by decide) (kx_word hG kq_16_xentry_4 rfl) (fun _ h9 => h9) rfl dX0_makeKey_133 ?_
                    refine lv_iload hx hb dX0_makeKey_136 (lv_at hl 2 rfl) ?_
                    refine lv_iconst (v := iz 1) hx hb dX0_makeKey_138 (by decide) ?_
                    refine ki_isub hx hb dX0_makeKey_139 ?_
                    have hPc := hP.sub (ws' := (iU cI 20 (o 1) (r 0) (n 0) (z 0) (F 0))) [1, 2] rfl
                    refine xk_pure (va_runV (As := [.int (iz (k - 1))]) (rest := []) ⟨hx, hb, hml, hown, hts⟩ (x_get l dC dI cI cB cE 20 (o 1) (r 0) (n 0) (z 0) (F 0) (k - 1) H.size (by omega) (hE.2.1 0) (by omega) (by omega)) (cwV 1 hts (kx_gV kq_16_xentry_24 kq_13_xints_4 kq_13_xints_5 kq_13_xints_6 kq_13_xints_7 rfl) rfl rfl rfl (by decide +kernel) ⟨Nat.le_of_ble_eq_true rfl, Nat.le_of_ble_eq_true rfl⟩) ⟨pPre_blind, va_recv hK hPc (ci := 1) (q0 := 0) rfl rfl, pPre_give hPc hK hG⟩ rfl rfl hl.1 rfl (lv_room (Nat.le_of_ble_eq_true rfl)) dX0_makeKey_140 ⟨show (cv + dn_144) + 0 ≤ 20 from (by omega), show (sv + dm_145) + 0 ≤ 3500 from (by omega)⟩) hS (fun z_156 locs hq_155 hS => ?_)
                    refine W.eq (g2 := F0 m 143 ls [.int (iz z_156)]) rfl ?_
                    try dsimp only at hq_155
                    have hPc : va_P (dC, dI) kxCl [] H := fun k q h => by simp at h
                    refine xk_pure (va_runS (As := [.int (iz z_156)]) (rest := []) ⟨hx, hb, hml, hown, hts⟩ (x_isDigit l dC dI cI cB cE z_156 H.size (by omega) (by omega)) (va_cwS 1 hts (kx_gS kq_16_xentry_29 kq_16_xentry_30 kq_16_xentry_2 kq_16_xentry_31 rfl) rfl rfl rfl (by decide +kernel) ⟨Nat.le_of_ble_eq_true rfl, Nat.le_of_ble_eq_true rfl⟩) ⟨pPre_blind, pPre_give hPc hK hG⟩ rfl rfl hl.1 rfl (lv_room (Nat.le_of_ble_eq_true rfl)) dX0_makeKey_143 ⟨show (cv + dn_144) + 0 ≤ 20 from (by omega), show (sv + dm_145) + 0 ≤ 3500 from (by omega)⟩) hS (fun z_158 locs hq_157 hS => ?_)
                    refine W.eq (g2 := F0 m 146 ls [.int (iz z_158)]) rfl ?_
                    try dsimp only at hq_157
                    rcases hq_157 with ⟨rfl, hq_157⟩ | ⟨rfl, hq_157⟩
                    · skip
                      refine ki_if_ne (tgt := 161) hx hb dX0_makeKey_146 (by decide) (by omega) (by omega) (fun c_159 => ?_) (fun c_159 => ?_)
                      · skip
                        refine lv_iinc (v := iz (k + 1)) (lv' := [(4, .int (iz (k + 1))), (3, .int (iz 0)), (5, .int (iz z_9)), (0, .ref (o 0)), (1, .int (iz p0)), (2, .int (iz p1))]) hx hb dX0_makeKey_161 hl (k := 2) rfl (iz_add k 1) (by decide) rfl (fun ls hl => ?_)
                        refine lv_goto (tgt := 12) hx hb dX0_makeKey_164 (by decide) ?_
                        exact ih12 0 (k + 1) r_146 n_147 z_148 F_149 (cv + dn_144) (sv + dm_145) ⟨by omega, by omega, by omega, hb150, by omega⟩ (by omega) _ _ hP hD hS ls (lv_sub hl [0, 1, 3, 4, 5] rfl)
                      · omega
                    · skip
                      refine ki_if_ne (tgt := 161) hx hb dX0_makeKey_146 (by decide) (by omega) (by omega) (fun c_160 => ?_) (fun c_160 => ?_)
                      · omega
                      · skip
                        refine lv_aload_n hx hb dX0_makeKey_149 rfl (lv_at hl 3 rfl) ?_
                        refine lv_iload hx hb dX0_makeKey_150 (lv_at hl 2 rfl) ?_
                        refine lv_aload_n hx hb dX0_makeKey_152 rfl (lv_at hl 3 rfl) ?_
                        refine lv_iload hx hb dX0_makeKey_153 (lv_at hl 2 rfl) ?_
                        have hPc := hP.sub (ws' := (eU cI o (va_up r 2 r_146) (va_up n 2 n_147) (va_up z 2 z_148) (va_up F 2 F_149))) [0, 1, 2, 3, 4, 5, 6, 7, 8, 9, 10, 11, 12, 13, 14, 15] rfl
                        refine xk_pure (va_runV (As := [.int (iz k)]) (rest := [.int (iz k), .ref (o 0)]) ⟨hx, hb, hml, hown, hts⟩ (x_digitsEnd l dC dI cI cB cE o (va_up r 2 r_146) (va_up n 2 n_147) (va_up z 2 z_148) (va_up F 2 F_149) k H.size (hE.i 2 (by decide) (show 0 ≤ z_148 ∧ z_148 ≤ ((n_147 : Nat) : Int) ∧ ((n_147 : Nat) : Int) ≤ 40 by omega) hb150 (by omega)) (by omega) (by omega) (by omega)) (cwV 1 hts (kx_gV kq_16_xentry_36 kq_16_xentry_37 kq_16_xentry_38 kq_16_xentry_2 kq_16_xentry_39 rfl) rfl rfl rfl (by decide +kernel) ⟨Nat.le_of_ble_eq_true rfl, Nat.le_of_ble_eq_true rfl⟩) ⟨pPre_blind, va_recv hK hPc (ci := 0) (q0 := 0) rfl rfl, pPre_give hPc hK hG⟩ rfl rfl hl.1 rfl (lv_room (Nat.le_of_ble_eq_true rfl)) dX0_makeKey_155 ⟨show (cv + dn_144) + 0 ≤ 20 from (by omega), show (sv + dm_145) + 0 ≤ 3500 from (by omega)⟩) hS (fun z_162 locs hq_161 hS => ?_)
                        refine W.eq (g2 := F0 m 158 ls [.int (iz z_162), .int (iz k), .ref (o 0)]) rfl ?_
                        try dsimp only at hq_161
                        try simp (decide := true) only [va_ev, ↓reduceIte] at hq_161
                        have hPc := hP.sub (ws' := (eU cI o (va_up r 2 r_146) (va_up n 2 n_147) (va_up z 2 z_148) (va_up F 2 F_149))) [0, 1, 2, 3, 4, 5, 6, 7, 8, 9, 10, 11, 12, 13, 14, 15] rfl
                        have hDc := hD.sub (ws' := (eU cI o (va_up r 2 r_146) (va_up n 2 n_147) (va_up z 2 z_148) (va_up F 2 F_149))) [0, 1, 2, 3, 4, 5, 6, 7, 8, 9, 10, 11, 12, 13, 14, 15] (by decide) rfl
                        have hFc := va_free (wc := (eU cI o (va_up r 2 r_146) (va_up n 2 n_147) (va_up z 2 z_148) (va_up F 2 F_149))) hD hS hA [0, 1, 2, 3, 4, 5, 6, 7, 8, 9, 10, 11, 12, 13, 14, 15] rfl
                        refine xk_call (va_runV (As := [.int (iz k), .int (iz z_162)]) (rest := []) ⟨hx, hb, hml, hown, hts⟩ (x_addNumber l dC dI cI cB cE o (va_up r 2 r_146) (va_up n 2 n_147) (va_up z 2 z_148) (va_up F 2 F_149) k z_162 H.size (hE.i 2 (by decide) (show 0 ≤ z_148 ∧ z_148 ≤ ((n_147 : Nat) : Int) ∧ ((n_147 : Nat) : Int) ≤ 40 by omega) hb150 (by omega)) (by omega) (by omega) (by omega) (by omega) (by omega) (by omega)) (cwV 2 hts (kx_gV kq_16_xentry_40 kq_16_xentry_41 kq_16_xentry_42 kq_16_xentry_2 kq_16_xentry_43 rfl) rfl rfl rfl (by decide +kernel) ⟨Nat.le_of_ble_eq_true rfl, Nat.le_of_ble_eq_true rfl⟩) ⟨kx_blind, va_recv hK hPc (ci := 0) (q0 := 0) rfl rfl, kx_give (ws := []) (tys := []) hPc hDc hK hG hZ hS hFc⟩ rfl rfl hl.1 rfl (lv_room (Nat.le_of_ble_eq_true rfl)) dX0_makeKey_158 ⟨show (cv + dn_144) + 10 ≤ 20 from (by omega), show (sv + dm_145) + 1720 ≤ 3500 from (by omega)⟩) hS (fun q _ h => hFc q h) hFc (fun u dn_164 dm_165 t H locs ht hvm hq_163 hB hk1 hS => ?_)
                        obtain ⟨r2_166, n2_167, z2_168, F2_169⟩ := u
                        obtain ⟨hP1, hK1, hD1⟩ := hB
                        rw [ht] at hP1
                        obtain ⟨hP, hD⟩ := xj (wr := []) (w1 := (eU cI o (va_up (va_up r 2 r_146) 2 r2_166) (va_up (va_up n 2 n_147) 2 n2_167) (va_up (va_up z 2 z_148) 2 z2_168) (va_up (va_up F 2 F_149) 2 F2_169))) (ws' := (eU cI o (va_up r 2 r2_166) (va_up n 2 n2_167) (va_up z 2 z2_168) (va_up F 2 F2_169))) hP hD [0, 1, 2, 3, 4, 5, 6, 7, 8, 9, 10, 11, 12, 13, 14, 15] [] [0, 1, 2, 3, 4, 5, 6, 7, 8, 9, 10, 11, 12, 13, 14, 15] rfl rfl (by decide) (by decide) hk1 hFc hP1 hD1 rfl (by decide)
                        refine W.eq (g2 := F0 m 161 ls []) rfl ?_
                        try dsimp only at hq_163
                        try simp (decide := true) only [va_ev, ↓reduceIte] at hq_163
                        obtain ⟨⟨ha170, hb170⟩, hc170⟩ := hq_163
                        refine lv_iinc (v := iz (k + 1)) (lv' := [(4, .int (iz (k + 1))), (3, .int (iz 0)), (5, .int (iz z_9)), (0, .ref (o 0)), (1, .int (iz p0)), (2, .int (iz p1))]) hx hb dX0_makeKey_161 hl (k := 2) rfl (iz_add k 1) (by decide) rfl (fun ls hl => ?_)
                        refine lv_goto (tgt := 12) hx hb dX0_makeKey_164 (by decide) ?_
                        exact ih12 0 (k + 1) r2_166 n2_167 z2_168 F2_169 ((cv + dn_144) + dn_164) ((sv + dm_145) + dm_165) ⟨by omega, by omega, by omega, hb170, by omega⟩ (by omega) _ _ hP hD hS ls (lv_sub hl [0, 1, 3, 4, 5] rfl)
                  · skip
                    refine lv_aload_n hx hb dX0_makeKey_119 rfl (lv_at hl 3 rfl) ?_
                    refine lv_iload hx hb dX0_makeKey_120 (lv_at hl 2 rfl) ?_
                    refine lv_iload hx hb dX0_makeKey_122 (lv_at hl 2 rfl) ?_
                    refine lv_iconst (v := iz 1) hx hb dX0_makeKey_124 (by decide) ?_
                    refine ki_iadd hx hb dX0_makeKey_125 ?_
                    have hPc := hP.sub (ws' := (eU cI o (va_up r 2 r_146) (va_up n 2 n_147) (va_up z 2 z_148) (va_up F 2 F_149))) [0, 1, 2, 3, 4, 5, 6, 7, 8, 9, 10, 11, 12, 13, 14, 15] rfl
                    have hDc := hD.sub (ws' := (eU cI o (va_up r 2 r_146) (va_up n 2 n_147) (va_up z 2 z_148) (va_up F 2 F_149))) [0, 1, 2, 3, 4, 5, 6, 7, 8, 9, 10, 11, 12, 13, 14, 15] (by decide) rfl
                    have hFc := va_free (wc := (eU cI o (va_up r 2 r_146) (va_up n 2 n_147) (va_up z 2 z_148) (va_up F 2 F_149))) hD hS hA [0, 1, 2, 3, 4, 5, 6, 7, 8, 9, 10, 11, 12, 13, 14, 15] rfl
                    refine xk_call (va_runV (As := [.int (iz k), .int (iz (k + 1))]) (rest := []) ⟨hx, hb, hml, hown, hts⟩ (x_addNumber l dC dI cI cB cE o (va_up r 2 r_146) (va_up n 2 n_147) (va_up z 2 z_148) (va_up F 2 F_149) k (k + 1) H.size (hE.i 2 (by decide) (show 0 ≤ z_148 ∧ z_148 ≤ ((n_147 : Nat) : Int) ∧ ((n_147 : Nat) : Int) ≤ 40 by omega) hb150 (by omega)) (by omega) (by omega) (by omega) (by omega) (by omega) (by omega)) (cwV 2 hts (kx_gV kq_16_xentry_40 kq_16_xentry_41 kq_16_xentry_42 kq_16_xentry_2 kq_16_xentry_43 rfl) rfl rfl rfl (by decide +kernel) ⟨Nat.le_of_ble_eq_true rfl, Nat.le_of_ble_eq_true rfl⟩) ⟨kx_blind, va_recv hK hPc (ci := 0) (q0 := 0) rfl rfl, kx_give (ws := []) (tys := []) hPc hDc hK hG hZ hS hFc⟩ rfl rfl hl.1 rfl (lv_room (Nat.le_of_ble_eq_true rfl)) dX0_makeKey_126 ⟨show (cv + dn_144) + 10 ≤ 20 from (by omega), show (sv + dm_145) + 1720 ≤ 3500 from (by omega)⟩) hS (fun q _ h => hFc q h) hFc (fun u dn_172 dm_173 t H locs ht hvm hq_171 hB hk1 hS => ?_)
                    obtain ⟨r2_174, n2_175, z2_176, F2_177⟩ := u
                    obtain ⟨hP1, hK1, hD1⟩ := hB
                    rw [ht] at hP1
                    obtain ⟨hP, hD⟩ := xj (wr := []) (w1 := (eU cI o (va_up (va_up r 2 r_146) 2 r2_174) (va_up (va_up n 2 n_147) 2 n2_175) (va_up (va_up z 2 z_148) 2 z2_176) (va_up (va_up F 2 F_149) 2 F2_177))) (ws' := (eU cI o (va_up r 2 r2_174) (va_up n 2 n2_175) (va_up z 2 z2_176) (va_up F 2 F2_177))) hP hD [0, 1, 2, 3, 4, 5, 6, 7, 8, 9, 10, 11, 12, 13, 14, 15] [] [0, 1, 2, 3, 4, 5, 6, 7, 8, 9, 10, 11, 12, 13, 14, 15] rfl rfl (by decide) (by decide) hk1 hFc hP1 hD1 rfl (by decide)
                    refine W.eq (g2 := F0 m 129 ls []) rfl ?_
                    try dsimp only at hq_171
                    try simp (decide := true) only [va_ev, ↓reduceIte] at hq_171
                    obtain ⟨⟨ha178, hb178⟩, hc178⟩ := hq_171
                    refine lv_goto (tgt := 161) hx hb dX0_makeKey_129 (by decide) ?_
                    refine lv_iinc (v := iz (k + 1)) (lv' := [(4, .int (iz (k + 1))), (3, .int (iz 0)), (5, .int (iz z_9)), (0, .ref (o 0)), (1, .int (iz p0)), (2, .int (iz p1))]) hx hb dX0_makeKey_161 hl (k := 2) rfl (iz_add k 1) (by decide) rfl (fun ls hl => ?_)
                    refine lv_goto (tgt := 12) hx hb dX0_makeKey_164 (by decide) ?_
                    exact ih12 0 (k + 1) r2_174 n2_175 z2_176 F2_177 ((cv + dn_144) + dn_172) ((sv + dm_145) + dm_173) ⟨by omega, by omega, by omega, hb178, by omega⟩ (by omega) _ _ hP hD hS ls (lv_sub hl [0, 1, 3, 4, 5] rfl)
                · skip
                  refine lv_aload_n hx hb dX0_makeKey_96 rfl (lv_at hl 3 rfl) ?_
                  refine va_get (D := (dC, dI)) (ci := 0) (v := .ref (o 3)) (C := RX0) (T := TX0) (N := 12) hx hb hts kt_X0 hown hK hP 0 rfl rfl 4 (by decide) (kx_word hG kq_16_xentry_22 rfl) (fun _ h9 => h9) rfl dX0_makeKey_97 ?_
                  refine lv_iload hx hb dX0_makeKey_100 (lv_at hl 1 rfl) ?_
                  refine lv_sipush (v := iz 128) hx hb dX0_makeKey_102 (by decide) ?_
                  refine lv_irem hx hb dX0_makeKey_105 (show ¬ iz 128 = 0 by decide) ?_
                  refine ki_any (fun z_179 hz_179a hz_179b => ?_)
                  have hPc : va_P (dC, dI) kxCl [] H := fun k q h => by simp at h
                  refine xk_pure (va_runS (As := [.int (iz z_179)]) (rest := [.ref (o 3)]) ⟨hx, hb, hml, hown, hts⟩ (x_smallOf l dC dI cI cB cE z_179 H.size (by omega) (by omega)) (va_cwS 1 hts (kx_gS kq_16_xentry_0 kq_16_xentry_1 kq_16_xentry_2 kq_16_xentry_3 rfl) rfl rfl rfl (by decide +kernel) ⟨Nat.le_of_ble_eq_true rfl, Nat.le_of_ble_eq_true rfl⟩) ⟨pPre_blind, pPre_give hPc hK hG⟩ rfl rfl hl.1 rfl (lv_room (Nat.le_of_ble_eq_true rfl)) dX0_makeKey_106 ⟨show (cv + dn_144) + 0 ≤ 20 from (by omega), show (sv + dm_145) + 0 ≤ 3500 from (by omega)⟩) hS (fun z_181 locs hq_180 hS => ?_)
                  refine W.eq (g2 := F0 m 109 ls [.int (iz z_181), .ref (o 3)]) rfl ?_
                  try dsimp only at hq_180
                  have hPc := hP.sub (ws' := (iU cI 40 (o 3) r_146 n_147 z_148 F_149)) [5, 6] rfl
                  have hDc := hD.sub (ws' := (iU cI 40 (o 3) r_146 n_147 z_148 F_149)) [5, 6] (by decide) rfl
                  have hFc := va_free (wc := (iU cI 40 (o 3) r_146 n_147 z_148 F_149)) hD hS hA [5, 6] rfl
                  refine xk_call (va_runV (As := [.int (iz z_181)]) (rest := []) ⟨hx, hb, hml, hown, hts⟩ (x_add l dC dI cI cB cE 40 (o 3) r_146 n_147 z_148 F_149 z_181 H.size (by omega) hb150 (by omega) (by omega)) (cwV 1 hts (kx_gV kq_16_xentry_5 kq_15_xspan_46 kq_15_xspan_47 kq_13_xints_6 kq_15_xspan_48 rfl) rfl rfl rfl (by decide +kernel) ⟨Nat.le_of_ble_eq_true rfl, Nat.le_of_ble_eq_true rfl⟩) ⟨kx_blind, va_recv hK hPc (ci := 1) (q0 := 0) rfl rfl, kx_give (ws := []) (tys := []) hPc hDc hK hG hZ hS hFc⟩ rfl rfl hl.1 rfl (lv_room (Nat.le_of_ble_eq_true rfl)) dX0_makeKey_109 ⟨show (cv + dn_144) + 1 ≤ 20 from (by omega), show (sv + dm_145) + 1600 ≤ 3500 from (by omega)⟩) hS (fun q _ h => hFc q h) hFc (fun u dn_183 dm_184 t H locs ht hvm hq_182 hB hk1 hS => ?_)
                  obtain ⟨r_185, n_186, z_187, F_188⟩ := u
                  obtain ⟨hP1, hK1, hD1⟩ := hB
                  rw [ht] at hP1
                  obtain ⟨hP, hD⟩ := xj (wr := [(o 0, .inr (0, [.int (iz (z 7)), .int (iz (z 8)), .ref (o 1), .ref (o 2), .ref (o 3), .ref (o 5), .ref (o 4), .int (iz (z 9)), .int (iz (z 10)), .int (iz (z 11)), .int (iz (z 12)), .int (iz (z 13))])), (o 1, .inr (1, [.int (iz 20), .ref (r 0), .int (iz (z 0))])), (r 0, .inl (cI, n 0, .inl (iA (F 0)))), (o 2, .inr (1, [.int (iz 20), .ref (r 1), .int (iz (z 1))])), (r 1, .inl (cI, n 1, .inl (iA (F 1)))), (o 4, .inr (1, [.int (iz 5), .ref (r 3), .int (iz (z 3))])), (r 3, .inl (cI, n 3, .inl (iA (F 3)))), (o 5, .inr (3, [.ref (o 6), .ref (o 7), .ref (o 8)])), (o 6, .inr (1, [.int (iz 20), .ref (r 4), .int (iz (z 4))])), (r 4, .inl (cI, n 4, .inl (iA (F 4)))), (o 7, .inr (1, [.int (iz 20), .ref (r 5), .int (iz (z 5))])), (r 5, .inl (cI, n 5, .inl (iA (F 5)))), (o 8, .inr (1, [.int (iz 20), .ref (r 6), .int (iz (z 6))])), (r 6, .inl (cI, n 6, .inl (iA (F 6))))]) (w1 := (iU cI 40 (o 3) r_185 n_186 z_187 F_188)) (ws' := (eU cI o (va_up r 2 r_185) (va_up n 2 n_186) (va_up z 2 z_187) (va_up F 2 F_188))) hP hD [5, 6] [0, 1, 2, 3, 4, 7, 8, 9, 10, 11, 12, 13, 14, 15] [0, 1, 2, 3, 4, 14, 15, 5, 6, 7, 8, 9, 10, 11, 12, 13] rfl rfl (by decide) (by decide) hk1 hFc hP1 hD1 rfl (by decide)
                  refine W.eq (g2 := F0 m 112 ls []) rfl ?_
                  try dsimp only at hq_182
                  obtain ⟨ha189, hb189, hc189, hd189⟩ := hq_182
                  refine lv_goto (tgt := 161) hx hb dX0_makeKey_112 (by decide) ?_
                  refine lv_iinc (v := iz (k + 1)) (lv' := [(4, .int (iz (k + 1))), (3, .int (iz 0)), (5, .int (iz z_9)), (0, .ref (o 0)), (1, .int (iz p0)), (2, .int (iz p1))]) hx hb dX0_makeKey_161 hl (k := 2) rfl (iz_add k 1) (by decide) rfl (fun ls hl => ?_)
                  refine lv_goto (tgt := 12) hx hb dX0_makeKey_164 (by decide) ?_
                  exact ih12 0 (k + 1) r_185 n_186 z_187 F_188 ((cv + dn_144) + dn_183) ((sv + dm_145) + dm_184) ⟨by omega, by omega, by omega, hb189, by omega⟩ (by omega) _ _ hP hD hS ls (lv_sub hl [0, 1, 3, 4, 5] rfl)
            · omega
          · skip
            refine ki_if_ne (tgt := 74) hx hb dX0_makeKey_48 (by decide) (by omega) (by omega) (fun c_190 => ?_) (fun c_190 => ?_)
            · omega
            · skip
              refine lv_iload_n hx hb dX0_makeKey_51 rfl (lv_at hl 5 rfl) ?_
              refine ki_if_eq (tgt := 69) hx hb dX0_makeKey_52 (by decide) (by omega) (by omega) (fun c_191 => ?_) (fun c_191 => ?_)
              · skip
                refine lv_iconst (v := iz 0) hx hb dX0_makeKey_69 (by decide) ?_
                refine lv_istore_n (lv' := [(3, .int (iz 0)), (5, .int (iz z_9)), (4, .int (iz k)), (0, .ref (o 0)), (1, .int (iz p0)), (2, .int (iz p1))]) hx hb dX0_makeKey_70 rfl hl (by decide) rfl (fun ls hl => ?_)
                refine lv_goto (tgt := 161) hx hb dX0_makeKey_71 (by decide) ?_
                refine lv_iinc (v := iz (k + 1)) (lv' := [(4, .int (iz (k + 1))), (3, .int (iz 0)), (5, .int (iz z_9)), (0, .ref (o 0)), (1, .int (iz p0)), (2, .int (iz p1))]) hx hb dX0_makeKey_161 hl (k := 2) rfl (iz_add k 1) (by decide) rfl (fun ls hl => ?_)
                refine lv_goto (tgt := 12) hx hb dX0_makeKey_164 (by decide) ?_
                exact ih12 0 (k + 1) rv nv zv Fv cv sv ⟨by omega, by omega, by omega, hFv, by omega⟩ (by omega) _ _ hP hD hS ls (lv_sub hl [0, 1, 3, 4, 5] rfl)
              · skip
                refine lv_aload_n hx hb dX0_makeKey_55 rfl (lv_at hl 3 rfl) ?_
                refine va_get (D := (dC, dI)) (ci := 0) (v := .ref (o 3)) (C := RX0) (T := TX0) (N := 12) hx hb hts kt_X0 hown hK hP 0 rfl rfl 4 (by decide) (kx_word hG kq_16_xentry_22 rfl) (fun _ h9 => h9) rfl dX0_makeKey_56 ?_
                have hPc := hP.sub (ws' := (iU cI 40 (o 3) rv nv zv Fv)) [5, 6] rfl
                refine xk_pure (va_runV (As := []) (rest := []) ⟨hx, hb, hml, hown, hts⟩ (x_size l dC dI cI cB cE 40 (o 3) rv nv zv Fv  H.size ) (cwV 0 hts (kx_gV kq_16_xentry_23 kq_15_xspan_10 kq_15_xspan_11 kq_13_xints_6 kq_15_xspan_12 rfl) rfl rfl rfl (by decide +kernel) ⟨Nat.le_of_ble_eq_true rfl, Nat.le_of_ble_eq_true rfl⟩) ⟨pPre_blind, va_recv hK hPc (ci := 1) (q0 := 0) rfl rfl, pPre_give hPc hK hG⟩ rfl rfl hl.1 rfl (lv_room (Nat.le_of_ble_eq_true rfl)) dX0_makeKey_59 ⟨show cv + 0 ≤ 20 from (by omega), show sv + 0 ≤ 3500 from (by omega)⟩) hS (fun z_193 locs hq_192 hS => ?_)
                refine W.eq (g2 := F0 m 62 ls [.int (iz z_193)]) rfl ?_
                try dsimp only at hq_192
                have hq_192 := hq_192.symm
                subst hq_192
                refine ki_if_le (tgt := 69) hx hb dX0_makeKey_62 (by decide) (by omega) (by omega) (fun c_194 => ?_) (fun c_194 => ?_)
                · skip
                  refine lv_iconst (v := iz 0) hx hb dX0_makeKey_69 (by decide) ?_
                  refine lv_istore_n (lv' := [(3, .int (iz 0)), (5, .int (iz z_9)), (4, .int (iz k)), (0, .ref (o 0)), (1, .int (iz p0)), (2, .int (iz p1))]) hx hb dX0_makeKey_70 rfl hl (by decide) rfl (fun ls hl => ?_)
                  refine lv_goto (tgt := 161) hx hb dX0_makeKey_71 (by decide) ?_
                  refine lv_iinc (v := iz (k + 1)) (lv' := [(4, .int (iz (k + 1))), (3, .int (iz 0)), (5, .int (iz z_9)), (0, .ref (o 0)), (1, .int (iz p0)), (2, .int (iz p1))]) hx hb dX0_makeKey_161 hl (k := 2) rfl (iz_add k 1) (by decide) rfl (fun ls hl => ?_)
                  refine lv_goto (tgt := 12) hx hb dX0_makeKey_164 (by decide) ?_
                  exact ih12 0 (k + 1) rv nv zv Fv cv sv ⟨by omega, by omega, by omega, hFv, by omega⟩ (by omega) _ _ hP hD hS ls (lv_sub hl [0, 1, 3, 4, 5] rfl)
                · skip
                  refine lv_iconst (v := iz 1) hx hb dX0_makeKey_65 (by decide) ?_
                  refine lv_goto (tgt := 70) hx hb dX0_makeKey_66 (by decide) ?_
                  refine lv_istore_n (lv' := [(3, .int (iz 1)), (5, .int (iz z_9)), (4, .int (iz k)), (0, .ref (o 0)), (1, .int (iz p0)), (2, .int (iz p1))]) hx hb dX0_makeKey_70 rfl hl (by decide) rfl (fun ls hl => ?_)
                  refine lv_goto (tgt := 161) hx hb dX0_makeKey_71 (by decide) ?_
                  refine lv_iinc (v := iz (k + 1)) (lv' := [(4, .int (iz (k + 1))), (3, .int (iz 1)), (5, .int (iz z_9)), (0, .ref (o 0)), (1, .int (iz p0)), (2, .int (iz p1))]) hx hb dX0_makeKey_161 hl (k := 2) rfl (iz_add k 1) (by decide) rfl (fun ls hl => ?_)
                  refine lv_goto (tgt := 12) hx hb dX0_makeKey_164 (by decide) ?_
                  exact ih12 1 (k + 1) rv nv zv Fv cv sv ⟨by omega, by omega, by omega, hFv, by omega⟩ (by omega) _ _ hP hD hS ls (lv_sub hl [0, 1, 3, 4, 5] rfl)
  exact lp12 _ 0 0 (r 2) (n 2) z_4 (F 2) (0 + 0) (0 + 0) ⟨by omega, by omega, by omega, (hE.2.1 2), by omega⟩ (Nat.lt_succ_self _) _ _ hP hD hS ls (lv_sub hl [0, 1, 2, 3, 4] rfl)
