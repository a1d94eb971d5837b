/-! the landed class: warnings, papers, spans -/
theorem iB_0 : iB (fun _ => 0) := by
  intro j
  show (-2147483648 : Int) ≤ 0 ∧ (0 : Int) < 2147483648
  omega
theorem tmod_bd (a : Int) {b : Int} (h : 0 < b) : -b < Int.tmod a b ∧ Int.tmod a b < b := ⟨Int.lt_tmod_of_pos a h, Int.tmod_lt_of_pos a h⟩
theorem tdiv_bd {a b : Int} (a1 : -2147483648 ≤ a) (a2 : a < 2147483648) (h : 0 < b) : -2147483648 ≤ Int.tdiv a b ∧ Int.tdiv a b < 2147483648 := by
  rcases Int.le_total 0 a with c | c
  · rw [Int.tdiv_eq_ediv_of_nonneg c]
    have h1 := Int.ediv_nonneg c (Int.le_of_lt h)
    have h2 := Int.ediv_le_self b c
    omega
  · have e : Int.tdiv a b = -((-a) / b) := by
      rw [← Int.tdiv_eq_ediv_of_nonneg (show 0 ≤ -a by omega), Int.neg_tdiv, Int.neg_neg]
    have h1 : 0 ≤ (-a) / b := Int.ediv_nonneg (by omega) (Int.le_of_lt h)
    have h2 : (-a) / b ≤ -a := Int.ediv_le_self b (by omega)
    omega
theorem iz_tdiv {a b : Int} (a1 : -2147483648 ≤ a) (a2 : a < 2147483648) (b1 : 0 < b) (b2 : b < 2147483648) : iz a / iz b = iz (Int.tdiv a b) := by
  refine Int32.toInt_inj.mp ?_
  have e1 : (iz b).toInt = b := iz_toInt (by omega) b2
  have e2 : (iz a).toInt = a := iz_toInt a1 a2
  have hq := tdiv_bd a1 a2 b1
  have hne : iz b ≠ -1 := by
    intro h
    rw [h] at e1
    have h1 : (-1 : Int32).toInt = -1 := by decide
    omega
  rw [Int32.toInt_div_of_ne_right _ _ hne, e1, e2, iz_toInt hq.1 hq.2]
section TMD
variable {p : Program} {l : Launch} {e : Env} {R : Room} {s : State} {m : MethodId} {args : Array Value} {below : List Frame} {meth : Method} {c : Code} {H : Heap} {locs : List Loc} {cells slots : Nat} {Q : State → Prop} {cc : ByteArray} {pc : Nat} {ls : Array Slot} {rest : List Value}
theorem ki_tmod (hexec : p.tables.exec = Jvm.exec) (hb : c.code = cc) {a b : Int} (hdg : decode cc pc = .ok (.irem, 1)) (a1 : -2147483648 ≤ a) (a2 : a < 2147483648) (b1 : 0 < b) (b2 : b < 2147483648) (k : W p l e R s m args below meth c H locs cells slots Q (F0 m (pc + 1) ls (.int (iz (Int.tmod a b)) :: rest))) : W p l e R s m args below meth c H locs cells slots Q (F0 m pc ls (.int (iz b) :: .int (iz a) :: rest)) :=
  lv_irem hexec hb hdg (fun h => by rw [iz_0, iz_eq (by omega) b2 (by omega) (by omega)] at h; omega) (by
    have e9 : iz a - iz a / iz b * iz b = iz (Int.tmod a b) := by
      rw [iz_tdiv a1 a2 b1 b2, iz_mul, iz_sub, Int.tmod_def, Int.mul_comm b]
    rw [e9]
    exact k)
end TMD
theorem kq_15_xspan_0 : (Cond.fieldLink RX4 7 "IndexSort$Warnings" "wanted" "I") ∈ lw_tbl := by decide +kernel
theorem kq_15_xspan_1 : (Cond.fieldLink RX4 13 "IndexSort$Warnings" "count" "I") ∈ lw_tbl := by decide +kernel
theorem kq_15_xspan_2 : (Cond.fieldLink RX4 16 "IndexSort$Warnings" "kind" "I") ∈ lw_tbl := by decide +kernel
theorem kq_15_xspan_3 : (Cond.fieldLink RX4 19 "IndexSort$Warnings" "entry" "I") ∈ lw_tbl := by decide +kernel
theorem kq_15_xspan_4 : (Cond.fieldLink RX4 22 "IndexSort$Warnings" "number" "I") ∈ lw_tbl := by decide +kernel
theorem kq_15_xspan_5 : (Cond.fieldLink RX2 15 "IndexSort$Paper" "size" "I") ∈ lw_tbl := by decide +kernel
theorem kq_15_xspan_6 : (Cond.fieldLink RX2 9 "IndexSort$Paper" "room" "[B") ∈ lw_tbl := by decide +kernel
theorem kq_15_xspan_7 : (Cond.fieldLink RX2 19 "IndexSort$Paper" "tooLong" "Z") ∈ lw_tbl := by decide +kernel
theorem kq_15_xspan_8 : (Cond.arrayClass .byte) ∈ lw_tbl := by decide +kernel
theorem kq_15_xspan_9 : (Cond.methodLink RX2 23 yX1_size) ∈ lw_tbl := by decide +kernel
theorem kq_15_xspan_10 : (Cond.instanceMethod yX1_size) ∈ lw_tbl := by decide +kernel
theorem kq_15_xspan_11 : (Cond.selects RX1 yX1_size yX1_size) ∈ lw_tbl := by decide +kernel
theorem kq_15_xspan_12 : (Cond.code yX1_size cX1_size 1 (some .int)) ∈ lw_tbl := by decide +kernel
theorem kq_15_xspan_13 : (Cond.methodLink RX2 28 yX1_get) ∈ lw_tbl := by decide +kernel
theorem kq_15_xspan_14 : (Cond.methodLink RX2 32 yX2_put) ∈ lw_tbl := by decide +kernel
theorem kq_15_xspan_15 : (Cond.instanceMethod yX2_put) ∈ lw_tbl := by decide +kernel
theorem kq_15_xspan_16 : (Cond.selects RX2 yX2_put yX2_put) ∈ lw_tbl := by decide +kernel
theorem kq_15_xspan_17 : (Cond.initialized RX2) ∈ lw_tbl := by decide +kernel
theorem kq_15_xspan_18 : (Cond.code yX2_put cX2_put 2 none) ∈ lw_tbl := by decide +kernel
theorem kq_15_xspan_19 : (Cond.constant RX2 36 100000) ∈ lw_tbl := by decide +kernel
theorem kq_15_xspan_20 : (Cond.methodLink RX2 37 yX2_putRomanDigit) ∈ lw_tbl := by decide +kernel
theorem kq_15_xspan_21 : (Cond.instanceMethod yX2_putRomanDigit) ∈ lw_tbl := by decide +kernel
theorem kq_15_xspan_22 : (Cond.selects RX2 yX2_putRomanDigit yX2_putRomanDigit) ∈ lw_tbl := by decide +kernel
theorem kq_15_xspan_23 : (Cond.code yX2_putRomanDigit cX2_putRomanDigit 6 none) ∈ lw_tbl := by decide +kernel
theorem kq_15_xspan_24 : (Cond.methodLink RX2 41 yX2_putNumber) ∈ lw_tbl := by decide +kernel
theorem kq_15_xspan_25 : (Cond.instanceMethod yX2_putNumber) ∈ lw_tbl := by decide +kernel
theorem kq_15_xspan_26 : (Cond.selects RX2 yX2_putNumber yX2_putNumber) ∈ lw_tbl := by decide +kernel
theorem kq_15_xspan_27 : (Cond.code yX2_putNumber cX2_putNumber 3 none) ∈ lw_tbl := by decide +kernel
theorem kq_15_xspan_28 : (Cond.methodLink RX2 44 yX2_putLetters) ∈ lw_tbl := by decide +kernel
theorem kq_15_xspan_29 : (Cond.instanceMethod yX2_putLetters) ∈ lw_tbl := by decide +kernel
theorem kq_15_xspan_30 : (Cond.selects RX2 yX2_putLetters yX2_putLetters) ∈ lw_tbl := by decide +kernel
theorem kq_15_xspan_31 : (Cond.code yX2_putLetters cX2_putLetters 2 none) ∈ lw_tbl := by decide +kernel
theorem kq_15_xspan_32 : (Cond.fieldLink RX3 12 "IndexSort$Spans" "froms" "LIndexSort$Ints;") ∈ lw_tbl := by decide +kernel
theorem kq_15_xspan_33 : (Cond.methodLink RX3 24 yX1_size) ∈ lw_tbl := by decide +kernel
theorem kq_15_xspan_34 : (Cond.methodLink RX3 28 yX1_isFull) ∈ lw_tbl := by decide +kernel
theorem kq_15_xspan_35 : (Cond.instanceMethod yX1_isFull) ∈ lw_tbl := by decide +kernel
theorem kq_15_xspan_36 : (Cond.selects RX1 yX1_isFull yX1_isFull) ∈ lw_tbl := by decide +kernel
theorem kq_15_xspan_37 : (Cond.code yX1_isFull cX1_isFull 1 (some .boolean)) ∈ lw_tbl := by decide +kernel
theorem kq_15_xspan_38 : (Cond.methodLink RX3 35 yX1_get) ∈ lw_tbl := by decide +kernel
theorem kq_15_xspan_39 : (Cond.fieldLink RX3 18 "IndexSort$Spans" "tos" "LIndexSort$Ints;") ∈ lw_tbl := by decide +kernel
theorem kq_15_xspan_40 : (Cond.fieldLink RX3 21 "IndexSort$Spans" "tolds" "LIndexSort$Ints;") ∈ lw_tbl := by decide +kernel
theorem kq_15_xspan_41 : (Cond.methodLink RX3 32 yX1_clear) ∈ lw_tbl := by decide +kernel
theorem kq_15_xspan_42 : (Cond.instanceMethod yX1_clear) ∈ lw_tbl := by decide +kernel
theorem kq_15_xspan_43 : (Cond.selects RX1 yX1_clear yX1_clear) ∈ lw_tbl := by decide +kernel
theorem kq_15_xspan_44 : (Cond.code yX1_clear cX1_clear 1 none) ∈ lw_tbl := by decide +kernel
theorem kq_15_xspan_45 : (Cond.methodLink RX3 39 yX1_add) ∈ lw_tbl := by decide +kernel
theorem kq_15_xspan_46 : (Cond.instanceMethod yX1_add) ∈ lw_tbl := by decide +kernel
theorem kq_15_xspan_47 : (Cond.selects RX1 yX1_add yX1_add) ∈ lw_tbl := by decide +kernel
theorem kq_15_xspan_48 : (Cond.code yX1_add cX1_add 2 none) ∈ lw_tbl := by decide +kernel
theorem kq_15_xspan_49 : (Cond.methodLink RX3 42 yX1_set) ∈ lw_tbl := by decide +kernel
theorem kq_15_xspan_50 : (Cond.methodLink RX3 46 yX3_size) ∈ lw_tbl := by decide +kernel
theorem kq_15_xspan_51 : (Cond.instanceMethod yX3_size) ∈ lw_tbl := by decide +kernel
theorem kq_15_xspan_52 : (Cond.selects RX3 yX3_size yX3_size) ∈ lw_tbl := by decide +kernel
theorem kq_15_xspan_53 : (Cond.initialized RX3) ∈ lw_tbl := by decide +kernel
theorem kq_15_xspan_54 : (Cond.code yX3_size cX3_size 1 (some .int)) ∈ lw_tbl := by decide +kernel
theorem kq_15_xspan_55 : (Cond.methodLink RX3 47 yX3_from) ∈ lw_tbl := by decide +kernel
theorem kq_15_xspan_56 : (Cond.instanceMethod yX3_from) ∈ lw_tbl := by decide +kernel
theorem kq_15_xspan_57 : (Cond.selects RX3 yX3_from yX3_from) ∈ lw_tbl := by decide +kernel
theorem kq_15_xspan_58 : (Cond.code yX3_from cX3_from 2 (some .int)) ∈ lw_tbl := by decide +kernel
theorem kq_15_xspan_59 : (Cond.methodLink RX3 63 yX1_swap) ∈ lw_tbl := by decide +kernel
theorem kq_15_xspan_60 : (Cond.instanceMethod yX1_swap) ∈ lw_tbl := by decide +kernel
theorem kq_15_xspan_61 : (Cond.selects RX1 yX1_swap yX1_swap) ∈ lw_tbl := by decide +kernel
theorem kq_15_xspan_62 : (Cond.code yX1_swap cX1_swap 4 none) ∈ lw_tbl := by decide +kernel
theorem kq_15_xspan_63 : (Cond.methodLink RX3 50 yX3_to) ∈ lw_tbl := by decide +kernel
theorem kq_15_xspan_64 : (Cond.instanceMethod yX3_to) ∈ lw_tbl := by decide +kernel
theorem kq_15_xspan_65 : (Cond.selects RX3 yX3_to yX3_to) ∈ lw_tbl := by decide +kernel
theorem kq_15_xspan_66 : (Cond.code yX3_to cX3_to 2 (some .int)) ∈ lw_tbl := by decide +kernel
theorem kq_15_xspan_67 : (Cond.methodLink RX3 53 yX3_isTold) ∈ lw_tbl := by decide +kernel
theorem kq_15_xspan_68 : (Cond.instanceMethod yX3_isTold) ∈ lw_tbl := by decide +kernel
theorem kq_15_xspan_69 : (Cond.selects RX3 yX3_isTold yX3_isTold) ∈ lw_tbl := by decide +kernel
theorem kq_15_xspan_70 : (Cond.code yX3_isTold cX3_isTold 2 (some .boolean)) ∈ lw_tbl := by decide +kernel
theorem kq_15_xspan_71 : (Cond.methodLink RX3 57 yX3_add) ∈ lw_tbl := by decide +kernel
theorem kq_15_xspan_72 : (Cond.instanceMethod yX3_add) ∈ lw_tbl := by decide +kernel
theorem kq_15_xspan_73 : (Cond.selects RX3 yX3_add yX3_add) ∈ lw_tbl := by decide +kernel
theorem kq_15_xspan_74 : (Cond.code yX3_add cX3_add 4 none) ∈ lw_tbl := by decide +kernel
theorem kq_15_xspan_75 : (Cond.methodLink RX3 60 yX3_sinkLast) ∈ lw_tbl := by decide +kernel
theorem kq_15_xspan_76 : (Cond.instanceMethod yX3_sinkLast) ∈ lw_tbl := by decide +kernel
theorem kq_15_xspan_77 : (Cond.selects RX3 yX3_sinkLast yX3_sinkLast) ∈ lw_tbl := by decide +kernel
theorem kq_15_xspan_78 : (Cond.code yX3_sinkLast cX3_sinkLast 2 none) ∈ lw_tbl := by decide +kernel
set_option maxHeartbeats 4000000 in
set_option maxRecDepth 100000 in
theorem x_lookFor (l : Launch) (dC : Nat → ClassId) (dI : Nat → Nat → Nat) (cI cB cE : ClassId) (o : Nat) (z1 : Int) (z2 : Int) (z3 : Int) (z4 : Int) (z5 : Int) (p0 : Int) (sz : Nat) (hb1 : -2147483648 ≤ z1 ∧ z1 < 2147483648) (hb2 : -2147483648 ≤ z2 ∧ z2 < 2147483648) (hb3 : -2147483648 ≤ z3 ∧ z3 < 2147483648) (hb4 : -2147483648 ≤ z4 ∧ z4 < 2147483648) (hb5 : -2147483648 ≤ z5 ∧ z5 < 2147483648) (hp01 : -2147483648 ≤ p0) (hp02 : p0 < 2147483648) : Met l yX4_lookFor [.code yX4_lookFor cX4_lookFor 2 none] ({ frames := 0, cells := 0, slots := 0, locals := 0 }) (va_Pc [.ref o, .int (iz p0)] (kx_Pre dC dI (wU o z1 z2 z3 z4 z5) (xT cI cB cE) sz)) (xQ (fun _ : Int × Int => none) (fun (u : Int × Int) (dn dm : Nat) => match u with | (z1', z2') => dn = 0 ∧ dm = 0 ∧ (-2147483648 ≤ z1' ∧ z1' < 2147483648) ∧ (-2147483648 ≤ z2' ∧ z2' < 2147483648)) (fun u t => kx_At dC dI (va_A (wU o z1 z2 z3 z4 z5) sz) ((fun u : Int × Int => match u with | (z1', z2') => (wU o z1' z2' z3 z4 z5)) u) (xT cI cB cE) t) (va_A (wU o z1 z2 z3 z4 z5) sz)) 0 0 (va_A (wU o z1 z2 z3 z4 z5) sz) := by
  refine Met.ofW (cc := cX4_lookFor) (maxL := 2) (ret := none) (by decide) rfl ?_
  intro p e s m args below meth c s₁ B hml hv
  obtain ⟨rfl, hsz, hP, hK, hD0, hG, hZ⟩ := hv
  have hx := B.exec
  have hb := B.bytes
  have hr := B.returns
  have hts := kx_hts (a := ([.ref o, .int (iz p0)] : List Value).toArray) hG
  have hown : s.vm.findClass RX4 = some m.cls := findClass_of_methodNamed B.named
  have hlocks := B.notSynchronized
  subst hsz
  have hD := hD0.self (sz := s.heap.size)
  generalize hAe : va_A (wU o z1 z2 z3 z4 z5) s.heap.size = A at hD hZ ⊢
  have hA : ∀ q : Nat, s.heap.size ≤ q → A q := fun q h => by rw [← hAe]; exact Or.inr h
  have hS : va_S A s.heap s.heap [] := va_S.rf
  have hl := lv_entry ([.ref o, .int (iz p0)]) (n := 2) (Nat.le_of_ble_eq_true rfl)
  rw [lg_entry_eq]
  generalize (lg_sl ([.ref o, .int (iz p0)]) ++ List.replicate (2 - (lg_sl ([.ref o, .int (iz p0)])).length) Slot.unset).toArray = ls at hl ⊢
  have hl : lv_has ls 2 [(0, .ref o), (1, .int (iz p0))] := hl
  refine lv_aload_n hx hb dX4_lookFor_0 rfl (lv_at hl 0 rfl) ?_
  refine lv_iload_n hx hb dX4_lookFor_1 rfl (lv_at hl 1 rfl) ?_
  refine va_put (D := (dC, dI)) (ci := 4) (v := .int (iz p0)) (ty := .int) (C := RX4) (T := TX4) (N := 5) hx hb hts kt_X4 tyX4 tyX4_ok nmX4 hown hK hP hD hS 0 rfl rfl 0 (by decide) (kx_word hG kq_15_xspan_0 rfl) (fun _ h9 => h9) rfl (by decide +kernel) rfl rfl (Nat.le_of_ble_eq_true rfl) dX4_lookFor_2 (fun H locs hP hD hS => ?_)
  have hP : va_P (dC, dI) kxCl (wU o p0 z2 z3 z4 z5) H := hP
  have hD : va_D A (wU o p0 z2 z3 z4 z5) := hD
  refine lv_aload_n hx hb dX4_lookFor_5 rfl (lv_at hl 0 rfl) ?_
  refine lv_iconst (v := iz 0) hx hb dX4_lookFor_6 (by decide) ?_
  refine va_put (D := (dC, dI)) (ci := 4) (v := .int (iz 0)) (ty := .int) (C := RX4) (T := TX4) (N := 5) hx hb hts kt_X4 tyX4 tyX4_ok nmX4 hown hK hP hD hS 0 rfl rfl 1 (by decide) (kx_word hG kq_15_xspan_1 rfl) (fun _ h9 => h9) rfl (by decide +kernel) rfl rfl (Nat.le_of_ble_eq_true rfl) dX4_lookFor_7 (fun H locs hP hD hS => ?_)
  have hP : va_P (dC, dI) kxCl (wU o p0 0 z3 z4 z5) H := hP
  have hD : va_D A (wU o p0 0 z3 z4 z5) := hD
  exact xk_vret (ov := (fun _ : Int × Int => none)) (post := (fun (u : Int × Int) (dn dm : Nat) => match u with | (z1', z2') => dn = 0 ∧ dm = 0 ∧ (-2147483648 ≤ z1' ∧ z1' < 2147483648) ∧ (-2147483648 ≤ z2' ∧ z2' < 2147483648))) (ws := (fun u : Int × Int => match u with | (z1', z2') => (wU o z1' z2' z3 z4 z5))) (tys := xT cI cB cE) (p0, 0) hx hb hr hlocks rfl hP hD hK hS dX4_lookFor_10 (fun dn dm hdn hdm => ⟨by omega, by omega, by omega, by omega⟩) (by omega) (by omega)
set_option maxHeartbeats 4000000 in
set_option maxRecDepth 100000 in
theorem x_tell (l : Launch) (dC : Nat → ClassId) (dI : Nat → Nat → Nat) (cI cB cE : ClassId) (o : Nat) (z1 : Int) (z2 : Int) (z3 : Int) (z4 : Int) (z5 : Int) (p0 : Int) (p1 : Int) (p2 : Int) (sz : Nat) (hb1 : -2147483648 ≤ z1 ∧ z1 < 2147483648) (hb2 : -2147483648 ≤ z2 ∧ z2 < 2147483648) (hb3 : -2147483648 ≤ z3 ∧ z3 < 2147483648) (hb4 : -2147483648 ≤ z4 ∧ z4 < 2147483648) (hb5 : -2147483648 ≤ z5 ∧ z5 < 2147483648) (hp01 : -2147483648 ≤ p0) (hp02 : p0 < 2147483648) (hp11 : -2147483648 ≤ p1) (hp12 : p1 < 2147483648) (hp21 : -2147483648 ≤ p2) (hp22 : p2 < 2147483648) : Met l yX4_tell [.code yX4_tell cX4_tell 4 none] ({ frames := 0, cells := 0, slots := 0, locals := 0 }) (va_Pc [.ref o, .int (iz p0), .int (iz p1), .int (iz p2)] (kx_Pre dC dI (wU o z1 z2 z3 z4 z5) (xT cI cB cE) sz)) (xQ (fun _ : Int × Int × Int × Int => none) (fun (u : Int × Int × Int × Int) (dn dm : Nat) => match u with | (z2', z3', z4', z5') => dn = 0 ∧ dm = 0 ∧ (-2147483648 ≤ z2' ∧ z2' < 2147483648) ∧ (-2147483648 ≤ z3' ∧ z3' < 2147483648) ∧ (-2147483648 ≤ z4' ∧ z4' < 2147483648) ∧ (-2147483648 ≤ z5' ∧ z5' < 2147483648)) (fun u t => kx_At dC dI (va_A (wU o z1 z2 z3 z4 z5) sz) ((fun u : Int × Int × Int × Int => match u with | (z2', z3', z4', z5') => (wU o z1 z2' z3' z4' z5')) u) (xT cI cB cE) t) (va_A (wU o z1 z2 z3 z4 z5) sz)) 0 0 (va_A (wU o z1 z2 z3 z4 z5) sz) := by
  refine Met.ofW (cc := cX4_tell) (maxL := 4) (ret := none) (by decide) rfl ?_
  intro p e s m args below meth c s₁ B hml hv
  obtain ⟨rfl, hsz, hP, hK, hD0, hG, hZ⟩ := hv
  have hx := B.exec
  have hb := B.bytes
  have hr := B.returns
  have hts := kx_hts (a := ([.ref o, .int (iz p0), .int (iz p1), .int (iz p2)] : List Value).toArray) hG
  have hown : s.vm.findClass RX4 = some m.cls := findClass_of_methodNamed B.named
  have hlocks := B.notSynchronized
  subst hsz
  have hD := hD0.self (sz := s.heap.size)
  generalize hAe : va_A (wU o z1 z2 z3 z4 z5) s.heap.size = A at hD hZ ⊢
  have hA : ∀ q : Nat, s.heap.size ≤ q → A q := fun q h => by rw [← hAe]; exact Or.inr h
  have hS : va_S A s.heap s.heap [] := va_S.rf
  have hl := lv_entry ([.ref o, .int (iz p0), .int (iz p1), .int (iz p2)]) (n := 4) (Nat.le_of_ble_eq_true rfl)
  rw [lg_entry_eq]
  generalize (lg_sl ([.ref o, .int (iz p0), .int (iz p1), .int (iz p2)]) ++ List.replicate (4 - (lg_sl ([.ref o, .int (iz p0), .int (iz p1), .int (iz p2)])).length) Slot.unset).toArray = ls at hl ⊢
  have hl : lv_has ls 4 [(0, .ref o), (1, .int (iz p0)), (2, .int (iz p1)), (3, .int (iz p2))] := hl
  refine lv_aload_n hx hb dX4_tell_0 rfl (lv_at hl 0 rfl) ?_
  refine va_get (D := (dC, dI)) (ci := 4) (v := .int (iz z2)) (C := RX4) (T := TX4) (N := 5) hx hb hts kt_X4 hown hK hP 0 rfl rfl 1 (by decide) (kx_word hG kq_15_xspan_1 rfl) (fun _ h9 => h9) rfl dX4_tell_1 ?_
  refine lv_aload_n hx hb dX4_tell_4 rfl (lv_at hl 0 rfl) ?_
  refine va_get (D := (dC, dI)) (ci := 4) (v := .int (iz z1)) (C := RX4) (T := TX4) (N := 5) hx hb hts kt_X4 hown hK hP 0 rfl rfl 0 (by decide) (kx_word hG kq_15_xspan_0 rfl) (fun _ h9 => h9) rfl dX4_tell_5 ?_
  refine ki_icmp_ne (tgt := 26) hx hb dX4_tell_8 (by decide) (by omega) (by omega) (by omega) (by omega) (fun c_1 => ?_) (fun c_1 => ?_)
  · skip
    refine lv_aload_n hx hb dX4_tell_26 rfl (lv_at hl 0 rfl) ?_
    refine lv_dup hx hb dX4_tell_27 rfl ?_
    refine va_get (D := (dC, dI)) (ci := 4) (v := .int (iz z2)) (C := RX4) (T := TX4) (N := 5) hx hb hts kt_X4 hown hK hP 0 rfl rfl 1 (by decide) (kx_word hG kq_15_xspan_1 rfl) (fun _ h9 => h9) rfl dX4_tell_28 ?_
    refine lv_iconst (v := iz 1) hx hb dX4_tell_31 (by decide) ?_
    refine ki_iadd hx hb dX4_tell_32 ?_
    refine ki_any (fun z_2 hz_2a hz_2b => ?_)
    refine va_put (D := (dC, dI)) (ci := 4) (v := .int (iz z_2)) (ty := .int) (C := RX4) (T := TX4) (N := 5) hx hb hts kt_X4 tyX4 tyX4_ok nmX4 hown hK hP hD hS 0 rfl rfl 1 (by decide) (kx_word hG kq_15_xspan_1 rfl) (fun _ h9 => h9) rfl (by decide +kernel) rfl rfl (Nat.le_of_ble_eq_true rfl) dX4_tell_33 (fun H locs hP hD hS => ?_)
    have hP : va_P (dC, dI) kxCl (wU o z1 z_2 z3 z4 z5) H := hP
    have hD : va_D A (wU o z1 z_2 z3 z4 z5) := hD
    exact xk_vret (ov := (fun _ : Int × Int × Int × Int => none)) (post := (fun (u : Int × Int × Int × Int) (dn dm : Nat) => match u with | (z2', z3', z4', z5') => dn = 0 ∧ dm = 0 ∧ (-2147483648 ≤ z2' ∧ z2' < 2147483648) ∧ (-2147483648 ≤ z3' ∧ z3' < 2147483648) ∧ (-2147483648 ≤ z4' ∧ z4' < 2147483648) ∧ (-2147483648 ≤ z5' ∧ z5' < 2147483648))) (ws := (fun u : Int × Int × Int × Int => match u with | (z2', z3', z4', z5') => (wU o z1 z2' z3' z4' z5'))) (tys := xT cI cB cE) (z_2, z3, z4, z5) hx hb hr hlocks rfl hP hD hK hS dX4_tell_36 (fun dn dm hdn hdm => ⟨by omega, by omega, by omega, by omega, by omega, by omega⟩) (by omega) (by omega)
  · skip
    refine lv_aload_n hx hb dX4_tell_11 rfl (lv_at hl 0 rfl) ?_
    refine lv_iload_n hx hb dX4_tell_12 rfl (lv_at hl 1 rfl) ?_
    refine va_put (D := (dC, dI)) (ci := 4) (v := .int (iz p0)) (ty := .int) (C := RX4) (T := TX4) (N := 5) hx hb hts kt_X4 tyX4 tyX4_ok nmX4 hown hK hP hD hS 0 rfl rfl 2 (by decide) (kx_word hG kq_15_xspan_2 rfl) (fun _ h9 => h9) rfl (by decide +kernel) rfl rfl (Nat.le_of_ble_eq_true rfl) dX4_tell_13 (fun H locs hP hD hS => ?_)
    have hP : va_P (dC, dI) kxCl (wU o z1 z2 p0 z4 z5) H := hP
    have hD : va_D A (wU o z1 z2 p0 z4 z5) := hD
    refine lv_aload_n hx hb dX4_tell_16 rfl (lv_at hl 0 rfl) ?_
    refine lv_iload_n hx hb dX4_tell_17 rfl (lv_at hl 2 rfl) ?_
    refine va_put (D := (dC, dI)) (ci := 4) (v := .int (iz p1)) (ty := .int) (C := RX4) (T := TX4) (N := 5) hx hb hts kt_X4 tyX4 tyX4_ok nmX4 hown hK hP hD hS 0 rfl rfl 3 (by decide) (kx_word hG kq_15_xspan_3 rfl) (fun _ h9 => h9) rfl (by decide +kernel) rfl rfl (Nat.le_of_ble_eq_true rfl) dX4_tell_18 (fun H locs hP hD hS => ?_)
    have hP : va_P (dC, dI) kxCl (wU o z1 z2 p0 p1 z5) H := hP
    have hD : va_D A (wU o z1 z2 p0 p1 z5) := hD
    refine lv_aload_n hx hb dX4_tell_21 rfl (lv_at hl 0 rfl) ?_
    refine lv_iload_n hx hb dX4_tell_22 rfl (lv_at hl 3 rfl) ?_
    refine va_put (D := (dC, dI)) (ci := 4) (v := .int (iz p2)) (ty := .int) (C := RX4) (T := TX4) (N := 5) hx hb hts kt_X4 tyX4 tyX4_ok nmX4 hown hK hP hD hS 0 rfl rfl 4 (by decide) (kx_word hG kq_15_xspan_4 rfl) (fun _ h9 => h9) rfl (by decide +kernel) rfl rfl (Nat.le_of_ble_eq_true rfl) dX4_tell_23 (fun H locs hP hD hS => ?_)
    have hP : va_P (dC, dI) kxCl (wU o z1 z2 p0 p1 p2) H := hP
    have hD : va_D A (wU o z1 z2 p0 p1 p2) := hD
    refine lv_aload_n hx hb dX4_tell_26 rfl (lv_at hl 0 rfl) ?_
    refine lv_dup hx hb dX4_tell_27 rfl ?_
    refine va_get (D := (dC, dI)) (ci := 4) (v := .int (iz z2)) (C := RX4) (T := TX4) (N := 5) hx hb hts kt_X4 hown hK hP 0 rfl rfl 1 (by decide) (kx_word hG kq_15_xspan_1 rfl) (fun _ h9 => h9) rfl dX4_tell_28 ?_
    refine lv_iconst (v := iz 1) hx hb dX4_tell_31 (by decide) ?_
    refine ki_iadd hx hb dX4_tell_32 ?_
    refine ki_any (fun z_3 hz_3a hz_3b => ?_)
    refine va_put (D := (dC, dI)) (ci := 4) (v := .int (iz z_3)) (ty := .int) (C := RX4) (T := TX4) (N := 5) hx hb hts kt_X4 tyX4 tyX4_ok nmX4 hown hK hP hD hS 0 rfl rfl 1 (by decide) (kx_word hG kq_15_xspan_1 rfl) (fun _ h9 => h9) rfl (by decide +kernel) rfl rfl (Nat.le_of_ble_eq_true rfl) dX4_tell_33 (fun H locs hP hD hS => ?_)
    have hP : va_P (dC, dI) kxCl (wU o z1 z_3 p0 p1 p2) H := hP
    have hD : va_D A (wU o z1 z_3 p0 p1 p2) := hD
    exact xk_vret (ov := (fun _ : Int × Int × Int × Int => none)) (post := (fun (u : Int × Int × Int × Int) (dn dm : Nat) => match u with | (z2', z3', z4', z5') => dn = 0 ∧ dm = 0 ∧ (-2147483648 ≤ z2' ∧ z2' < 2147483648) ∧ (-2147483648 ≤ z3' ∧ z3' < 2147483648) ∧ (-2147483648 ≤ z4' ∧ z4' < 2147483648) ∧ (-2147483648 ≤ z5' ∧ z5' < 2147483648))) (ws := (fun u : Int × Int × Int × Int => match u with | (z2', z3', z4', z5') => (wU o z1 z2' z3' z4' z5'))) (tys := xT cI cB cE) (z_3, p0, p1, p2) hx hb hr hlocks rfl hP hD hK hS dX4_tell_36 (fun dn dm hdn hdm => ⟨by omega, by omega, by omega, by omega, by omega, by omega⟩) (by omega) (by omega)
set_option maxHeartbeats 4000000 in
set_option maxRecDepth 100000 in
theorem x_psize (l : Launch) (dC : Nat → ClassId) (dI : Nat → Nat → Nat) (cI cB cE : ClassId) (o : Nat) (r : Nat) (n : Nat) (z : Int) (tl : Int) (F : Int → Int) (sz : Nat) : Met l yX2_size [.code yX2_size cX2_size 1 (some .int)] ({ frames := 0, cells := 0, slots := 0, locals := 0 }) (va_Pc [.ref o] (pPre dC dI (pU cB o r n z tl F) (xT cI cB cE) sz)) (pQ (fun z => some (.int (iz z))) (fun (q : Int) => q = z)) 0 0 (fun _ => False) := by
  refine Met.ofW (cc := cX2_size) (maxL := 1) (ret := (some .int)) (by decide) rfl ?_
  intro p e s m args below meth c s₁ B hml hv
  obtain ⟨rfl, hsz, hP, hK, hG⟩ := hv
  have hx := B.exec
  have hb := B.bytes
  have hr := B.returns
  have hts := kx_hts (a := ([.ref o] : List Value).toArray) hG
  have hown : s.vm.findClass RX2 = some m.cls := findClass_of_methodNamed B.named
  have hlocks := B.notSynchronized
  subst hsz
  have hS : va_S (fun _ => False) s.heap s.heap [] := va_S.rf
  have hl := lv_entry ([.ref o]) (n := 1) (Nat.le_of_ble_eq_true rfl)
  rw [lg_entry_eq]
  generalize (lg_sl ([.ref o]) ++ List.replicate (1 - (lg_sl ([.ref o])).length) Slot.unset).toArray = ls at hl ⊢
  have hl : lv_has ls 1 [(0, .ref o)] := hl
  refine lv_aload_n hx hb dX2_size_0 rfl (lv_at hl 0 rfl) ?_
  refine va_get (D := (dC, dI)) (ci := 2) (v := .int (iz z)) (C := RX2) (T := TX2) (N := 3) hx hb hts kt_X2 hown hK hP 0 rfl rfl 1 (by decide) (kx_word hG kq_15_xspan_5 rfl) (fun _ h9 => h9) rfl dX2_size_1 ?_
  exact xp_iret (z := z) hx hb hr rfl hlocks rfl hS.2.2 dX2_size_4 rfl
set_option maxHeartbeats 4000000 in
set_option maxRecDepth 100000 in
theorem x_pget (l : Launch) (dC : Nat → ClassId) (dI : Nat → Nat → Nat) (cI cB cE : ClassId) (o : Nat) (r : Nat) (n : Nat) (z : Int) (tl : Int) (F : Int → Int) (p0 : Int) (sz : Nat) (hok : 0 ≤ z ∧ z ≤ (n : Int) ∧ (n = 0 ∨ n = 6000)) (ht : tl = 0 ∨ tl = 1) (hF : iB F) (hp01 : -2147483648 ≤ p0) (hp02 : p0 < 2147483648) : Met l yX2_get [.code yX2_get cX2_get 2 (some .int)] ({ frames := 0, cells := 0, slots := 0, locals := 0 }) (va_Pc [.ref o, .int (iz p0)] (pPre dC dI (pU cB o r n z tl F) (xT cI cB cE) sz)) (pQ (fun z => some (.int (iz z))) (fun (q : Int) => -2147483648 ≤ q ∧ q < 2147483648)) 0 0 (fun _ => False) := by
  refine Met.ofW (cc := cX2_get) (maxL := 2) (ret := (some .int)) (by decide) rfl ?_
  intro p e s m args below meth c s₁ B hml hv
  obtain ⟨rfl, hsz, hP, hK, hG⟩ := hv
  have hx := B.exec
  have hb := B.bytes
  have hr := B.returns
  have hts := kx_hts (a := ([.ref o, .int (iz p0)] : List Value).toArray) hG
  have hown : s.vm.findClass RX2 = some m.cls := findClass_of_methodNamed B.named
  have hlocks := B.notSynchronized
  subst hsz
  have hS : va_S (fun _ => False) s.heap s.heap [] := va_S.rf
  have hl := lv_entry ([.ref o, .int (iz p0)]) (n := 2) (Nat.le_of_ble_eq_true rfl)
  rw [lg_entry_eq]
  generalize (lg_sl ([.ref o, .int (iz p0)]) ++ List.replicate (2 - (lg_sl ([.ref o, .int (iz p0)])).length) Slot.unset).toArray = ls at hl ⊢
  have hl : lv_has ls 2 [(0, .ref o), (1, .int (iz p0))] := hl
  refine lv_iload_n hx hb dX2_get_0 rfl (lv_at hl 1 rfl) ?_
  refine ki_if_lt (tgt := 34) hx hb dX2_get_1 (by decide) (by omega) (by omega) (fun c_1 => ?_) (fun c_1 => ?_)
  · skip
    refine lv_iconst (v := iz 0) hx hb dX2_get_34 (by decide) ?_
    exact xp_iret (z := 0) hx hb hr rfl hlocks rfl hS.2.2 dX2_get_35 (by omega)
  · skip
    refine lv_iload_n hx hb dX2_get_4 rfl (lv_at hl 1 rfl) ?_
    refine lv_aload_n hx hb dX2_get_5 rfl (lv_at hl 0 rfl) ?_
    refine va_get (D := (dC, dI)) (ci := 2) (v := .int (iz z)) (C := RX2) (T := TX2) (N := 3) hx hb hts kt_X2 hown hK hP 0 rfl rfl 1 (by decide) (kx_word hG kq_15_xspan_5 rfl) (fun _ h9 => h9) rfl dX2_get_6 ?_
    refine ki_icmp_ge (tgt := 34) hx hb dX2_get_9 (by decide) (by omega) (by omega) (by omega) (by omega) (fun c_2 => ?_) (fun c_2 => ?_)
    · skip
      refine lv_iconst (v := iz 0) hx hb dX2_get_34 (by decide) ?_
      exact xp_iret (z := 0) hx hb hr rfl hlocks rfl hS.2.2 dX2_get_35 (by omega)
    · skip
      refine lv_iload_n hx hb dX2_get_12 rfl (lv_at hl 1 rfl) ?_
      refine lv_aload_n hx hb dX2_get_13 rfl (lv_at hl 0 rfl) ?_
      refine va_get (D := (dC, dI)) (ci := 2) (v := .ref r) (C := RX2) (T := TX2) (N := 3) hx hb hts kt_X2 hown hK hP 0 rfl rfl 0 (by decide) (kx_word hG kq_15_xspan_6 rfl) (fun _ h9 => h9) rfl dX2_get_14 ?_
      refine xk_alen hx hb hK hP 1 1 rfl rfl dX2_get_17 ?_
      refine ki_icmp_ge (tgt := 34) hx hb dX2_get_18 (by decide) (by omega) (by omega) (by omega) (by omega) (fun c_3 => ?_) (fun c_3 => ?_)
      · skip
        refine lv_iconst (v := iz 0) hx hb dX2_get_34 (by decide) ?_
        exact xp_iret (z := 0) hx hb hr rfl hlocks rfl hS.2.2 dX2_get_35 (by omega)
      · skip
        refine lv_aload_n hx hb dX2_get_21 rfl (lv_at hl 0 rfl) ?_
        refine va_get (D := (dC, dI)) (ci := 2) (v := .ref r) (C := RX2) (T := TX2) (N := 3) hx hb hts kt_X2 hown hK hP 0 rfl rfl 0 (by decide) (kx_word hG kq_15_xspan_6 rfl) (fun _ h9 => h9) rfl dX2_get_22 ?_
        refine lv_iload_n hx hb dX2_get_25 rfl (lv_at hl 1 rfl) ?_
        refine ki_bald (F := F) hx hb hK hP 1 1 rfl rfl (by omega) (by omega) (by omega) dX2_get_26 ?_
        refine lv_sipush (v := iz 255) hx hb dX2_get_27 (by decide) ?_
        refine lv_iand hx hb dX2_get_30 ?_
        refine ki_any (fun z_4 hz_4a hz_4b => ?_)
        refine lv_goto (tgt := 35) hx hb dX2_get_31 (by decide) ?_
        exact xp_iret (z := z_4) hx hb hr rfl hlocks rfl hS.2.2 dX2_get_35 (by omega)
set_option maxHeartbeats 4000000 in
set_option maxRecDepth 100000 in
theorem x_pclear (l : Launch) (dC : Nat → ClassId) (dI : Nat → Nat → Nat) (cI cB cE : ClassId) (o : Nat) (r : Nat) (n : Nat) (z : Int) (tl : Int) (F : Int → Int) (sz : Nat) (hok : 0 ≤ z ∧ z ≤ (n : Int) ∧ (n = 0 ∨ n = 6000)) (ht : tl = 0 ∨ tl = 1) (hF : iB F) : Met l yX2_clear [.code yX2_clear cX2_clear 1 none] ({ frames := 0, cells := 1, slots := 6000, locals := 0 }) (va_Pc [.ref o] (kx_Pre dC dI (pU cB o r n z tl F) (xT cI cB cE) sz)) (xQ (fun _ : Nat × Nat × Int × Int × (Int → Int) => none) (fun (u : Nat × Nat × Int × Int × (Int → Int)) (dn dm : Nat) => match u with | (r', n', z', tl', F') => (6000 * dn + n ≤ n' ∧ dm + n ≤ n') ∧ z' = 0 ∧ tl' = 0 ∧ n' = 6000 ∧ iB F') (fun u t => kx_At dC dI (va_A (pU cB o r n z tl F) sz) ((fun u : Nat × Nat × Int × Int × (Int → Int) => match u with | (r', n', z', tl', F') => (pU cB o r' n' z' tl' F')) u) (xT cI cB cE) t) (va_A (pU cB o r n z tl F) sz)) 1 6000 (va_A (pU cB o r n z tl F) sz) := by
  refine Met.ofW (cc := cX2_clear) (maxL := 1) (ret := none) (by decide) rfl ?_
  intro p e s m args below meth c s₁ B hml hv
  obtain ⟨rfl, hsz, hP, hK, hD0, hG, hZ⟩ := hv
  have hx := B.exec
  have hb := B.bytes
  have hr := B.returns
  have hts := kx_hts (a := ([.ref o] : List Value).toArray) hG
  have hown : s.vm.findClass RX2 = some m.cls := findClass_of_methodNamed B.named
  have hlocks := B.notSynchronized
  subst hsz
  have hD := hD0.self (sz := s.heap.size)
  generalize hAe : va_A (pU cB o r n z tl F) s.heap.size = A at hD hZ ⊢
  have hA : ∀ q : Nat, s.heap.size ≤ q → A q := fun q h => by rw [← hAe]; exact Or.inr h
  have hS : va_S A s.heap s.heap [] := va_S.rf
  have hl := lv_entry ([.ref o]) (n := 1) (Nat.le_of_ble_eq_true rfl)
  rw [lg_entry_eq]
  generalize (lg_sl ([.ref o]) ++ List.replicate (1 - (lg_sl ([.ref o])).length) Slot.unset).toArray = ls at hl ⊢
  have hl : lv_has ls 1 [(0, .ref o)] := hl
  refine lv_aload_n hx hb dX2_clear_0 rfl (lv_at hl 0 rfl) ?_
  refine lv_iconst (v := iz 0) hx hb dX2_clear_1 (by decide) ?_
  refine va_put (D := (dC, dI)) (ci := 2) (v := .int (iz 0)) (ty := .int) (C := RX2) (T := TX2) (N := 3) hx hb hts kt_X2 tyX2 tyX2_ok nmX2 hown hK hP hD hS 0 rfl rfl 1 (by decide) (kx_word hG kq_15_xspan_5 rfl) (fun _ h9 => h9) rfl (by decide +kernel) rfl rfl (Nat.le_of_ble_eq_true rfl) dX2_clear_2 (fun H locs hP hD hS => ?_)
  have hP : va_P (dC, dI) kxCl (pU cB o r n 0 tl F) H := hP
  have hD : va_D A (pU cB o r n 0 tl F) := hD
  refine lv_aload_n hx hb dX2_clear_5 rfl (lv_at hl 0 rfl) ?_
  refine lv_iconst (v := iz 0) hx hb dX2_clear_6 (by decide) ?_
  refine va_put (D := (dC, dI)) (ci := 2) (v := .int (iz 0)) (ty := .boolean) (C := RX2) (T := TX2) (N := 3) hx hb hts kt_X2 tyX2 tyX2_ok nmX2 hown hK hP hD hS 0 rfl rfl 2 (by decide) (kx_word hG kq_15_xspan_7 rfl) (fun _ h9 => h9) rfl (by decide +kernel) (mz_bool (Or.inl rfl)).1 (mz_bool (Or.inl rfl)).2 (Nat.le_of_ble_eq_true rfl) dX2_clear_7 (fun H locs hP hD hS => ?_)
  have hP : va_P (dC, dI) kxCl (pU cB o r n 0 0 F) H := hP
  have hD : va_D A (pU cB o r n 0 0 F) := hD
  refine lv_aload_n hx hb dX2_clear_10 rfl (lv_at hl 0 rfl) ?_
  refine va_get (D := (dC, dI)) (ci := 2) (v := .ref r) (C := RX2) (T := TX2) (N := 3) hx hb hts kt_X2 hown hK hP 0 rfl rfl 0 (by decide) (kx_word hG kq_15_xspan_6 rfl) (fun _ h9 => h9) rfl dX2_clear_11 ?_
  refine xk_alen hx hb hK hP 1 1 rfl rfl dX2_clear_14 ?_
  refine lv_sipush (v := iz 6000) hx hb dX2_clear_15 (by decide) ?_
  refine ki_icmp_ge (tgt := 30) hx hb dX2_clear_18 (by decide) (by omega) (by omega) (by omega) (by omega) (fun c_1 => ?_) (fun c_1 => ?_)
  · skip
    exact xk_vret (ov := (fun _ : Nat × Nat × Int × Int × (Int → Int) => none)) (post := (fun (u : Nat × Nat × Int × Int × (Int → Int)) (dn dm : Nat) => match u with | (r', n', z', tl', F') => (6000 * dn + n ≤ n' ∧ dm + n ≤ n') ∧ z' = 0 ∧ tl' = 0 ∧ n' = 6000 ∧ iB F')) (ws := (fun u : Nat × Nat × Int × Int × (Int → Int) => match u with | (r', n', z', tl', F') => (pU cB o r' n' z' tl' F'))) (tys := xT cI cB cE) (r, n, 0, 0, F) hx hb hr hlocks rfl hP hD hK hS dX2_clear_30 (fun dn dm hdn hdm => ⟨by omega, rfl, rfl, by omega, hF⟩) (by omega) (by omega)
  · skip
    refine lv_aload_n hx hb dX2_clear_21 rfl (lv_at hl 0 rfl) ?_
    refine lv_sipush (v := iz 6000) hx hb dX2_clear_22 (by decide) ?_
    refine xk_newb (N := 6000) hx hb (kx_word hG kq_15_xspan_8 rfl) hK hP hD hS hA (by omega) (by omega) (show 0 + 1 ≤ 1 from (by omega)) (show 0 + (6000 : Int).toNat ≤ 6000 from (by omega)) dX2_clear_25 (fun q_2 H hP hD hS => ?_)
    have hP : va_P (dC, dI) kxCl ((pU cB o r n 0 0 F) ++ (bU cB q_2 ((6000 : Int).toNat) (fun _ => 0))) H := hP
    have hD : va_D A ((pU cB o r n 0 0 F) ++ (bU cB q_2 ((6000 : Int).toNat) (fun _ => 0))) := hD
    refine va_put (D := (dC, dI)) (ci := 2) (v := .ref q_2) (ty := .array .byte) (C := RX2) (T := TX2) (N := 3) hx hb hts kt_X2 tyX2 tyX2_ok nmX2 hown hK hP hD hS 0 rfl rfl 0 (by decide) (kx_word hG kq_15_xspan_6 rfl) (fun _ h9 => h9) rfl (by decide +kernel) rfl rfl (Nat.le_of_ble_eq_true rfl) dX2_clear_27 (fun H locs hP hD hS => ?_)
    have hP := hP.sub (ws' := (pU cB o q_2 ((6000 : Int).toNat) 0 0 (fun _ => 0))) [0, 2] rfl
    have hD := hD.sub (ws' := (pU cB o q_2 ((6000 : Int).toNat) 0 0 (fun _ => 0))) [0, 2] (by decide) rfl
    exact xk_vret (ov := (fun _ : Nat × Nat × Int × Int × (Int → Int) => none)) (post := (fun (u : Nat × Nat × Int × Int × (Int → Int)) (dn dm : Nat) => match u with | (r', n', z', tl', F') => (6000 * dn + n ≤ n' ∧ dm + n ≤ n') ∧ z' = 0 ∧ tl' = 0 ∧ n' = 6000 ∧ iB F')) (ws := (fun u : Nat × Nat × Int × Int × (Int → Int) => match u with | (r', n', z', tl', F') => (pU cB o r' n' z' tl' F'))) (tys := xT cI cB cE) (q_2, ((6000 : Int).toNat), 0, 0, (fun _ => 0)) hx hb hr hlocks rfl hP hD hK hS dX2_clear_30 (fun dn dm hdn hdm => ⟨by omega, rfl, rfl, rfl, iB_0⟩) (by omega) (by omega)
set_option maxHeartbeats 4000000 in
set_option maxRecDepth 100000 in
theorem x_put (l : Launch) (dC : Nat → ClassId) (dI : Nat → Nat → Nat) (cI cB cE : ClassId) (o : Nat) (r : Nat) (n : Nat) (z : Int) (tl : Int) (F : Int → Int) (p0 : Int) (sz : Nat) (hok : 0 ≤ z ∧ z ≤ (n : Int) ∧ (n = 0 ∨ n = 6000)) (ht : tl = 0 ∨ tl = 1) (hF : iB F) (hp01 : -2147483648 ≤ p0) (hp02 : p0 < 2147483648) : Met l yX2_put [.code yX2_put cX2_put 2 none] ({ frames := 0, cells := 0, slots := 0, locals := 0 }) (va_Pc [.ref o, .int (iz p0)] (kx_Pre dC dI (pU cB o r n z tl F) (xT cI cB cE) sz)) (xQ (fun _ : Int × Int × (Int → Int) => none) (fun (u : Int × Int × (Int → Int)) (dn dm : Nat) => match u with | (z', tl', F') => dn = 0 ∧ dm = 0 ∧ (0 ≤ z' ∧ z' ≤ (n : Int)) ∧ (tl' = 0 ∨ tl' = 1) ∧ iB F') (fun u t => kx_At dC dI (va_A (pU cB o r n z tl F) sz) ((fun u : Int × Int × (Int → Int) => match u with | (z', tl', F') => (pU cB o r n z' tl' F')) u) (xT cI cB cE) t) (va_A (pU cB o r n z tl F) sz)) 0 0 (va_A (pU cB o r n z tl F) sz) := by
  refine Met.ofW (cc := cX2_put) (maxL := 2) (ret := none) (by decide) rfl ?_
  intro p e s m args below meth c s₁ B hml hv
  obtain ⟨rfl, hsz, hP, hK, hD0, hG, hZ⟩ := hv
  have hx := B.exec
  have hb := B.bytes
  have hr := B.returns
  have hts := kx_hts (a := ([.ref o, .int (iz p0)] : List Value).toArray) hG
  have hown : s.vm.findClass RX2 = some m.cls := findClass_of_methodNamed B.named
  have hlocks := B.notSynchronized
  subst hsz
  have hD := hD0.self (sz := s.heap.size)
  generalize hAe : va_A (pU cB o r n z tl F) s.heap.size = A at hD hZ ⊢
  have hA : ∀ q : Nat, s.heap.size ≤ q → A q := fun q h => by rw [← hAe]; exact Or.inr h
  have hS : va_S A s.heap s.heap [] := va_S.rf
  have hl := lv_entry ([.ref o, .int (iz p0)]) (n := 2) (Nat.le_of_ble_eq_true rfl)
  rw [lg_entry_eq]
  generalize (lg_sl ([.ref o, .int (iz p0)]) ++ List.replicate (2 - (lg_sl ([.ref o, .int (iz p0)])).length) Slot.unset).toArray = ls at hl ⊢
  have hl : lv_has ls 2 [(0, .ref o), (1, .int (iz p0))] := hl
  refine lv_aload_n hx hb dX2_put_0 rfl (lv_at hl 0 rfl) ?_
  refine va_get (D := (dC, dI)) (ci := 2) (v := .int (iz z)) (C := RX2) (T := TX2) (N := 3) hx hb hts kt_X2 hown hK hP 0 rfl rfl 1 (by decide) (kx_word hG kq_15_xspan_5 rfl) (fun _ h9 => h9) rfl dX2_put_1 ?_
  refine ki_if_lt (tgt := 19) hx hb dX2_put_4 (by decide) (by omega) (by omega) (fun c_1 => ?_) (fun c_1 => ?_)
  · skip
    refine lv_aload_n hx hb dX2_put_19 rfl (lv_at hl 0 rfl) ?_
    refine lv_iconst (v := iz 1) hx hb dX2_put_20 (by decide) ?_
    refine va_put (D := (dC, dI)) (ci := 2) (v := .int (iz 1)) (ty := .boolean) (C := RX2) (T := TX2) (N := 3) hx hb hts kt_X2 tyX2 tyX2_ok nmX2 hown hK hP hD hS 0 rfl rfl 2 (by decide) (kx_word hG kq_15_xspan_7 rfl) (fun _ h9 => h9) rfl (by decide +kernel) (mz_bool (Or.inr rfl)).1 (mz_bool (Or.inr rfl)).2 (Nat.le_of_ble_eq_true rfl) dX2_put_21 (fun H locs hP hD hS => ?_)
    have hP : va_P (dC, dI) kxCl (pU cB o r n z 1 F) H := hP
    have hD : va_D A (pU cB o r n z 1 F) := hD
    exact xk_vret (ov := (fun _ : Int × Int × (Int → Int) => none)) (post := (fun (u : Int × Int × (Int → Int)) (dn dm : Nat) => match u with | (z', tl', F') => dn = 0 ∧ dm = 0 ∧ (0 ≤ z' ∧ z' ≤ (n : Int)) ∧ (tl' = 0 ∨ tl' = 1) ∧ iB F')) (ws := (fun u : Int × Int × (Int → Int) => match u with | (z', tl', F') => (pU cB o r n z' tl' F'))) (tys := xT cI cB cE) (z, 1, F) hx hb hr hlocks rfl hP hD hK hS dX2_put_24 (fun dn dm hdn hdm => ⟨by omega, by omega, by omega, by omega, hF⟩) (by omega) (by omega)
  · skip
    refine lv_aload_n hx hb dX2_put_7 rfl (lv_at hl 0 rfl) ?_
    refine va_get (D := (dC, dI)) (ci := 2) (v := .int (iz z)) (C := RX2) (T := TX2) (N := 3) hx hb hts kt_X2 hown hK hP 0 rfl rfl 1 (by decide) (kx_word hG kq_15_xspan_5 rfl) (fun _ h9 => h9) rfl dX2_put_8 ?_
    refine lv_aload_n hx hb dX2_put_11 rfl (lv_at hl 0 rfl) ?_
    refine va_get (D := (dC, dI)) (ci := 2) (v := .ref r) (C := RX2) (T := TX2) (N := 3) hx hb hts kt_X2 hown hK hP 0 rfl rfl 0 (by decide) (kx_word hG kq_15_xspan_6 rfl) (fun _ h9 => h9) rfl dX2_put_12 ?_
    refine xk_alen hx hb hK hP 1 1 rfl rfl dX2_put_15 ?_
    refine ki_icmp_lt (tgt := 25) hx hb dX2_put_16 (by decide) (by omega) (by omega) (by omega) (by omega) (fun c_2 => ?_) (fun c_2 => ?_)
    · skip
      refine lv_aload_n hx hb dX2_put_25 rfl (lv_at hl 0 rfl) ?_
      refine va_get (D := (dC, dI)) (ci := 2) (v := .ref r) (C := RX2) (T := TX2) (N := 3) hx hb hts kt_X2 hown hK hP 0 rfl rfl 0 (by decide) (kx_word hG kq_15_xspan_6 rfl) (fun _ h9 => h9) rfl dX2_put_26 ?_
      refine lv_aload_n hx hb dX2_put_29 rfl (lv_at hl 0 rfl) ?_
      refine va_get (D := (dC, dI)) (ci := 2) (v := .int (iz z)) (C := RX2) (T := TX2) (N := 3) hx hb hts kt_X2 hown hK hP 0 rfl rfl 1 (by decide) (kx_word hG kq_15_xspan_5 rfl) (fun _ h9 => h9) rfl dX2_put_30 ?_
      refine lv_iload_n hx hb dX2_put_33 rfl (lv_at hl 1 rfl) ?_
      refine lv_i2b hx hb dX2_put_34 rfl ?_
      refine ki_any (fun z_3 hz_3a hz_3b => ?_)
      refine ki_bast (F := F) hx hb hK hP hD hS 1 1 rfl rfl (by omega) (by omega) (by omega) dX2_put_35 (fun H locs hP hD hS => ?_)
      have hP : va_P (dC, dI) kxCl (pU cB o r n z tl (upI F z (vp_nar .byte (iz z_3)).toInt)) H := hP
      have hD : va_D A (pU cB o r n z tl (upI F z (vp_nar .byte (iz z_3)).toInt)) := hD
      refine lv_aload_n hx hb dX2_put_36 rfl (lv_at hl 0 rfl) ?_
      refine lv_dup hx hb dX2_put_37 rfl ?_
      refine va_get (D := (dC, dI)) (ci := 2) (v := .int (iz z)) (C := RX2) (T := TX2) (N := 3) hx hb hts kt_X2 hown hK hP 0 rfl rfl 1 (by decide) (kx_word hG kq_15_xspan_5 rfl) (fun _ h9 => h9) rfl dX2_put_38 ?_
      refine lv_iconst (v := iz 1) hx hb dX2_put_41 (by decide) ?_
      refine ki_iadd hx hb dX2_put_42 ?_
      refine va_put (D := (dC, dI)) (ci := 2) (v := .int (iz (z + 1))) (ty := .int) (C := RX2) (T := TX2) (N := 3) hx hb hts kt_X2 tyX2 tyX2_ok nmX2 hown hK hP hD hS 0 rfl rfl 1 (by decide) (kx_word hG kq_15_xspan_5 rfl) (fun _ h9 => h9) rfl (by decide +kernel) rfl rfl (Nat.le_of_ble_eq_true rfl) dX2_put_43 (fun H locs hP hD hS => ?_)
      have hP : va_P (dC, dI) kxCl (pU cB o r n (z + 1) tl (upI F z (vp_nar .byte (iz z_3)).toInt)) H := hP
      have hD : va_D A (pU cB o r n (z + 1) tl (upI F z (vp_nar .byte (iz z_3)).toInt)) := hD
      exact xk_vret (ov := (fun _ : Int × Int × (Int → Int) => none)) (post := (fun (u : Int × Int × (Int → Int)) (dn dm : Nat) => match u with | (z', tl', F') => dn = 0 ∧ dm = 0 ∧ (0 ≤ z' ∧ z' ≤ (n : Int)) ∧ (tl' = 0 ∨ tl' = 1) ∧ iB F')) (ws := (fun u : Int × Int × (Int → Int) => match u with | (z', tl', F') => (pU cB o r n z' tl' F'))) (tys := xT cI cB cE) (z + 1, tl, upI F z (vp_nar .byte (iz z_3)).toInt) hx hb hr hlocks rfl hP hD hK hS dX2_put_46 (fun dn dm hdn hdm => ⟨by omega, by omega, by omega, by omega, iB_up hF _ (iz_lo _) (iz_hi _)⟩) (by omega) (by omega)
    · skip
      refine lv_aload_n hx hb dX2_put_19 rfl (lv_at hl 0 rfl) ?_
      refine lv_iconst (v := iz 1) hx hb dX2_put_20 (by decide) ?_
      refine va_put (D := (dC, dI)) (ci := 2) (v := .int (iz 1)) (ty := .boolean) (C := RX2) (T := TX2) (N := 3) hx hb hts kt_X2 tyX2 tyX2_ok nmX2 hown hK hP hD hS 0 rfl rfl 2 (by decide) (kx_word hG kq_15_xspan_7 rfl) (fun _ h9 => h9) rfl (by decide +kernel) (mz_bool (Or.inr rfl)).1 (mz_bool (Or.inr rfl)).2 (Nat.le_of_ble_eq_true rfl) dX2_put_21 (fun H locs hP hD hS => ?_)
      have hP : va_P (dC, dI) kxCl (pU cB o r n z 1 F) H := hP
      have hD : va_D A (pU cB o r n z 1 F) := hD
      exact xk_vret (ov := (fun _ : Int × Int × (Int → Int) => none)) (post := (fun (u : Int × Int × (Int → Int)) (dn dm : Nat) => match u with | (z', tl', F') => dn = 0 ∧ dm = 0 ∧ (0 ≤ z' ∧ z' ≤ (n : Int)) ∧ (tl' = 0 ∨ tl' = 1) ∧ iB F')) (ws := (fun u : Int × Int × (Int → Int) => match u with | (z', tl', F') => (pU cB o r n z' tl' F'))) (tys := xT cI cB cE) (z, 1, F) hx hb hr hlocks rfl hP hD hK hS dX2_put_24 (fun dn dm hdn hdm => ⟨by omega, by omega, by omega, by omega, hF⟩) (by omega) (by omega)
set_option maxHeartbeats 4000000 in
set_option maxRecDepth 100000 in
theorem x_putAll (l : Launch) (dC : Nat → ClassId) (dI : Nat → Nat → Nat) (cI cB cE : ClassId) (o : Nat) (r : Nat) (n : Nat) (z : Int) (tl : Int) (F : Int → Int) (Lb : Int) (ob : Nat) (rb : Nat) (nb : Nat) (zb : Int) (Fb : Int → Int) (sz : Nat) (hok : 0 ≤ z ∧ z ≤ (n : Int) ∧ (n = 0 ∨ n = 6000)) (ht : tl = 0 ∨ tl = 1) (hF : iB F) (hokb : 0 ≤ zb ∧ zb ≤ (nb : Int) ∧ (nb : Int) ≤ Lb ∧ Lb ≤ 1600) (hFb : iB Fb) : Met l yX2_putAll [.code yX2_putAll cX2_putAll 3 none] ({ frames := 1, cells := 0, slots := 0, locals := 21 }) (va_Pc [.ref o, .ref ob] (kx_Pre dC dI ((pU cB o r n z tl F) ++ (iU cI Lb ob rb nb zb Fb)) (xT cI cB cE) sz)) (xQ (fun _ : Int × Int × (Int → Int) => none) (fun (u : Int × Int × (Int → Int)) (dn dm : Nat) => match u with | (z', tl', F') => dn = 0 ∧ dm = 0 ∧ (0 ≤ z' ∧ z' ≤ (n : Int)) ∧ (tl' = 0 ∨ tl' = 1) ∧ iB F') (fun u t => kx_At dC dI (va_A ((pU cB o r n z tl F) ++ (iU cI Lb ob rb nb zb Fb)) sz) ((fun u : Int × Int × (Int → Int) => match u with | (z', tl', F') => ((pU cB o r n z' tl' F') ++ (iU cI Lb ob rb nb zb Fb))) u) (xT cI cB cE) t) (va_A ((pU cB o r n z tl F) ++ (iU cI Lb ob rb nb zb Fb)) sz)) 0 0 (va_A ((pU cB o r n z tl F) ++ (iU cI Lb ob rb nb zb Fb)) sz) := by
  refine Met.ofW (cc := cX2_putAll) (maxL := 3) (ret := none) (by decide) rfl ?_
  intro p e s m args below meth c s₁ B hml hv
  obtain ⟨rfl, hsz, hP, hK, hD0, hG, hZ⟩ := hv
  have hx := B.exec
  have hb := B.bytes
  have hr := B.returns
  have hts := kx_hts (a := ([.ref o, .ref ob] : List Value).toArray) hG
  have hown : s.vm.findClass RX2 = some m.cls := findClass_of_methodNamed B.named
  have hlocks := B.notSynchronized
  subst hsz
  have hD := hD0.self (sz := s.heap.size)
  generalize hAe : va_A ((pU cB o r n z tl F) ++ (iU cI Lb ob rb nb zb Fb)) s.heap.size = A at hD hZ ⊢
  have hA : ∀ q : Nat, s.heap.size ≤ q → A q := fun q h => by rw [← hAe]; exact Or.inr h
  have hS : va_S A s.heap s.heap [] := va_S.rf
  have hl := lv_entry ([.ref o, .ref ob]) (n := 3) (Nat.le_of_ble_eq_true rfl)
  rw [lg_entry_eq]
  generalize (lg_sl ([.ref o, .ref ob]) ++ List.replicate (3 - (lg_sl ([.ref o, .ref ob])).length) Slot.unset).toArray = ls at hl ⊢
  have hl : lv_has ls 3 [(0, .ref o), (1, .ref ob)] := hl
  generalize hQe : MQ below (xQ (fun _ : Int × Int × (Int → Int) => none) (fun (u : Int × Int × (Int → Int)) (dn dm : Nat) => match u with | (z', tl', F') => dn = 0 ∧ dm = 0 ∧ (0 ≤ z' ∧ z' ≤ (n : Int)) ∧ (tl' = 0 ∨ tl' = 1) ∧ iB F') (fun u t => kx_At dC dI A ((fun u : Int × Int × (Int → Int) => match u with | (z', tl', F') => ((pU cB o r n z' tl' F') ++ (iU cI Lb ob rb nb zb Fb))) u) (xT cI cB cE) t) A) ([.ref o, .ref ob] : List Value).toArray s 0 0 A = QQ
  refine lv_iconst (v := iz 0) hx hb dX2_putAll_0 (by decide) ?_
  refine lv_istore_n (lv' := [(2, .int (iz 0)), (0, .ref o), (1, .ref ob)]) hx hb dX2_putAll_1 rfl hl (by decide) rfl (fun ls hl => ?_)
  have lp2 : ∀ (n0 : Nat) (k : Int) (zv : Int) (tv : Int) (Fv : Int → Int), ((0 ≤ k ∧ k ≤ zb) ∧ (0 ≤ zv ∧ zv ≤ (n : Int)) ∧ (tv = 0 ∨ tv = 1) ∧ (iB Fv)) → (zb - k).toNat < n0 → ∀ (H : Heap) (locs : List Loc), va_P (dC, dI) kxCl ((pU cB o r n zv tv Fv) ++ (iU cI Lb ob rb nb zb Fb)) H → va_D A ((pU cB o r n zv tv Fv) ++ (iU cI Lb ob rb nb zb Fb)) → va_S A s.heap H locs → ∀ ls : Array Slot, lv_has ls 3 [(2, .int (iz k)), (0, .ref o), (1, .ref ob)] → W p l e (headSpec [.code yX2_putAll cX2_putAll 3 none] ({ frames := 1, cells := 0, slots := 0, locals := 21 })).room s m ([.ref o, .ref ob] : List Value).toArray below meth c H locs 0 0 QQ (F0 m 2 ls []) := by
    intro n0
    induction n0 with
    | zero => intro k zv tv Fv hinv hm0; exact absurd hm0 (Nat.not_lt_zero _)
    | succ n0 ih2 =>
      intro k zv tv Fv hinv hm0 H locs hP hD hS ls hl
      obtain ⟨hk, hzv, htv, hFv⟩ := hinv
      refine lv_iload_n hx hb dX2_putAll_2 rfl (lv_at hl 0 rfl) ?_
      refine lv_aload_n hx hb dX2_putAll_3 rfl (lv_at hl 2 rfl) ?_
      have hPc := hP.sub (ws' := (iU cI Lb ob rb nb zb Fb)) [2, 3] rfl
      refine xk_pure (va_runV (As := []) (rest := [.int (iz k)]) ⟨hx, hb, hml, hown, hts⟩ (x_size l dC dI cI cB cE Lb ob rb nb zb Fb  H.size ) (cwV 0 hts (kx_gV kq_15_xspan_9 kq_15_xspan_10 kq_15_xspan_11 kq_13_xints_6 kq_15_xspan_12 rfl) rfl rfl rfl (by decide +kernel) ⟨Nat.le_of_ble_eq_true rfl, Nat.le_of_ble_eq_true rfl⟩) ⟨pPre_blind, va_recv hK hPc (ci := 1) (q0 := 0) rfl rfl, pPre_give hPc hK hG⟩ rfl rfl hl.1 rfl (lv_room (Nat.le_of_ble_eq_true rfl)) dX2_putAll_4 ⟨show 0 + 0 ≤ 0 from (by omega), show 0 + 0 ≤ 0 from (by omega)⟩) hS (fun z_2 locs hq_1 hS => ?_)
      refine W.eq (g2 := F0 m 7 ls [.int (iz z_2), .int (iz k)]) rfl ?_
      try dsimp only at hq_1
      have hq_1 := hq_1.symm
      subst hq_1
      refine ki_icmp_ge (tgt := 25) hx hb dX2_putAll_7 (by decide) (by omega) (by omega) (by omega) (by omega) (fun c_3 => ?_) (fun c_3 => ?_)
      · skip
        rw [← hQe]
        exact xk_vret (ov := (fun _ : Int × Int × (Int → Int) => none)) (post := (fun (u : Int × Int × (Int → Int)) (dn dm : Nat) => match u with | (z', tl', F') => dn = 0 ∧ dm = 0 ∧ (0 ≤ z' ∧ z' ≤ (n : Int)) ∧ (tl' = 0 ∨ tl' = 1) ∧ iB F')) (ws := (fun u : Int × Int × (Int → Int) => match u with | (z', tl', F') => ((pU cB o r n z' tl' F') ++ (iU cI Lb ob rb nb zb Fb)))) (tys := xT cI cB cE) (zv, tv, Fv) hx hb hr hlocks rfl hP hD hK hS dX2_putAll_25 (fun dn dm hdn hdm => ⟨by omega, by omega, by omega, by omega, hFv⟩) (by omega) (by omega)
      · skip
        refine lv_aload_n hx hb dX2_putAll_10 rfl (lv_at hl 1 rfl) ?_
        refine lv_aload_n hx hb dX2_putAll_11 rfl (lv_at hl 2 rfl) ?_
        refine lv_iload_n hx hb dX2_putAll_12 rfl (lv_at hl 0 rfl) ?_
        have hPc := hP.sub (ws' := (iU cI Lb ob rb nb zb Fb)) [2, 3] rfl
        refine xk_pure (va_runV (As := [.int (iz k)]) (rest := [.ref o]) ⟨hx, hb, hml, hown, hts⟩ (x_get l dC dI cI cB cE Lb ob rb nb zb Fb k H.size hokb hFb (by omega) (by omega)) (cwV 1 hts (kx_gV kq_15_xspan_13 kq_13_xints_4 kq_13_xints_5 kq_13_xints_6 kq_13_xints_7 rfl) rfl rfl rfl (by decide +kernel) ⟨Nat.le_of_ble_eq_true rfl, Nat.le_of_ble_eq_true rfl⟩) ⟨pPre_blind, va_recv hK hPc (ci := 1) (q0 := 0) rfl rfl, pPre_give hPc hK hG⟩ rfl rfl hl.1 rfl (lv_room (Nat.le_of_ble_eq_true rfl)) dX2_putAll_13 ⟨show 0 + 0 ≤ 0 from (by omega), show 0 + 0 ≤ 0 from (by omega)⟩) hS (fun z_5 locs hq_4 hS => ?_)
        refine W.eq (g2 := F0 m 16 ls [.int (iz z_5), .ref o]) rfl ?_
        try dsimp only at hq_4
        have hPc := hP.sub (ws' := (pU cB o r n zv tv Fv)) [0, 1] rfl
        have hDc := hD.sub (ws' := (pU cB o r n zv tv Fv)) [0, 1] (by decide) rfl
        have hFc := va_free (wc := (pU cB o r n zv tv Fv)) hD hS hA [0, 1] rfl
        refine xk_call (va_runV (As := [.int (iz z_5)]) (rest := []) ⟨hx, hb, hml, hown, hts⟩ (x_put l dC dI cI cB cE o r n zv tv Fv z_5 H.size (by omega) (by omega) hFv (by omega) (by omega)) (cwV 1 hts (kx_gV kq_15_xspan_14 kq_15_xspan_15 kq_15_xspan_16 kq_15_xspan_17 kq_15_xspan_18 rfl) rfl rfl rfl (by decide +kernel) ⟨Nat.le_of_ble_eq_true rfl, Nat.le_of_ble_eq_true rfl⟩) ⟨kx_blind, va_recv hK hPc (ci := 2) (q0 := 0) rfl rfl, kx_give (ws := []) (tys := []) hPc hDc hK hG hZ hS hFc⟩ rfl rfl hl.1 rfl (lv_room (Nat.le_of_ble_eq_true rfl)) dX2_putAll_16 ⟨show 0 + 0 ≤ 0 from (by omega), show 0 + 0 ≤ 0 from (by omega)⟩) hS (fun q _ h => hFc q h) hFc (fun u dn_7 dm_8 t H locs ht hvm hq_6 hB hk1 hS => ?_)
        obtain ⟨z_9, tl_10, F_11⟩ := u
        obtain ⟨hP1, hK1, hD1⟩ := hB
        rw [ht] at hP1
        obtain ⟨hP, hD⟩ := xj (wr := [(ob, .inr (1, [.int (iz Lb), .ref rb, .int (iz zb)])), (rb, .inl (cI, nb, .inl (iA Fb)))]) (w1 := (pU cB o r n z_9 tl_10 F_11)) (ws' := ((pU cB o r n z_9 tl_10 F_11) ++ (iU cI Lb ob rb nb zb Fb))) hP hD [0, 1] [2, 3] [2, 3, 0, 1] rfl rfl (by decide) (by decide) hk1 hFc hP1 hD1 rfl (by decide)
        refine W.eq (g2 := F0 m 19 ls []) rfl ?_
        try dsimp only at hq_6
        obtain ⟨hd12, hm12, hz12, ht12, hF12⟩ := hq_6
        subst hd12
        subst hm12
        refine lv_iinc (v := iz (k + 1)) (lv' := [(2, .int (iz (k + 1))), (0, .ref o), (1, .ref ob)]) hx hb dX2_putAll_19 hl (k := 0) rfl (iz_add k 1) (by decide) rfl (fun ls hl => ?_)
        refine lv_goto (tgt := 2) hx hb dX2_putAll_22 (by decide) ?_
        exact ih2 (k + 1) z_9 tl_10 F_11 ⟨by omega, by omega, by omega, hF12⟩ (by omega) _ _ hP hD hS ls (lv_sub hl [0, 1, 2] rfl)
  exact lp2 _ 0 z tl F ⟨by omega, by omega, by omega, hF⟩ (Nat.lt_succ_self _) _ _ hP hD hS ls (lv_sub hl [0, 1, 2] rfl)
set_option maxHeartbeats 4000000 in
set_option maxRecDepth 100000 in
theorem x_putBetween (l : Launch) (dC : Nat → ClassId) (dI : Nat → Nat → Nat) (cI cB cE : ClassId) (o : Nat) (r : Nat) (n : Nat) (z : Int) (tl : Int) (F : Int → Int) (p0 : Int) (sz : Nat) (hok : 0 ≤ z ∧ z ≤ (n : Int) ∧ (n = 0 ∨ n = 6000)) (ht : tl = 0 ∨ tl = 1) (hF : iB F) (hp01 : -2147483648 ≤ p0) (hp02 : p0 < 2147483648) : Met l yX2_putBetween [.code yX2_putBetween cX2_putBetween 2 none] ({ frames := 1, cells := 0, slots := 0, locals := 21 }) (va_Pc [.ref o, .int (iz p0)] (kx_Pre dC dI (pU cB o r n z tl F) (xT cI cB cE) sz)) (xQ (fun _ : Int × Int × (Int → Int) => none) (fun (u : Int × Int × (Int → Int)) (dn dm : Nat) => match u with | (z', tl', F') => dn = 0 ∧ dm = 0 ∧ (0 ≤ z' ∧ z' ≤ (n : Int)) ∧ (tl' = 0 ∨ tl' = 1) ∧ iB F') (fun u t => kx_At dC dI (va_A (pU cB o r n z tl F) sz) ((fun u : Int × Int × (Int → Int) => match u with | (z', tl', F') => (pU cB o r n z' tl' F')) u) (xT cI cB cE) t) (va_A (pU cB o r n z tl F) sz)) 0 0 (va_A (pU cB o r n z tl F) sz) := by
  refine Met.ofW (cc := cX2_putBetween) (maxL := 2) (ret := none) (by decide) rfl ?_
  intro p e s m args below meth c s₁ B hml hv
  obtain ⟨rfl, hsz, hP, hK, hD0, hG, hZ⟩ := hv
  have hx := B.exec
  have hb := B.bytes
  have hr := B.returns
  have hts := kx_hts (a := ([.ref o, .int (iz p0)] : List Value).toArray) hG
  have hown : s.vm.findClass RX2 = some m.cls := findClass_of_methodNamed B.named
  have hlocks := B.notSynchronized
  subst hsz
  have hD := hD0.self (sz := s.heap.size)
  generalize hAe : va_A (pU cB o r n z tl F) s.heap.size = A at hD hZ ⊢
  have hA : ∀ q : Nat, s.heap.size ≤ q → A q := fun q h => by rw [← hAe]; exact Or.inr h
  have hS : va_S A s.heap s.heap [] := va_S.rf
  have hl := lv_entry ([.ref o, .int (iz p0)]) (n := 2) (Nat.le_of_ble_eq_true rfl)
  rw [lg_entry_eq]
  generalize (lg_sl ([.ref o, .int (iz p0)]) ++ List.replicate (2 - (lg_sl ([.ref o, .int (iz p0)])).length) Slot.unset).toArray = ls at hl ⊢
  have hl : lv_has ls 2 [(0, .ref o), (1, .int (iz p0))] := hl
  refine lv_aload_n hx hb dX2_putBetween_0 rfl (lv_at hl 0 rfl) ?_
  refine lv_iload_n hx hb dX2_putBetween_1 rfl (lv_at hl 1 rfl) ?_
  have hPc := hP.sub (ws' := (pU cB o r n z tl F)) [0, 1] rfl
  have hDc := hD.sub (ws' := (pU cB o r n z tl F)) [0, 1] (by decide) rfl
  have hFc := va_free (wc := (pU cB o r n z tl F)) hD hS hA [0, 1] rfl
  refine xk_call (va_runV (As := [.int (iz p0)]) (rest := []) ⟨hx, hb, hml, hown, hts⟩ (x_put l dC dI cI cB cE o r n z tl F p0 s.heap.size (by omega) (by omega) hF (by omega) (by omega)) (cwV 1 hts (kx_gV kq_15_xspan_14 kq_15_xspan_15 kq_15_xspan_16 kq_15_xspan_17 kq_15_xspan_18 rfl) rfl rfl rfl (by decide +kernel) ⟨Nat.le_of_ble_eq_true rfl, Nat.le_of_ble_eq_true rfl⟩) ⟨kx_blind, va_recv hK hPc (ci := 2) (q0 := 0) rfl rfl, kx_give (ws := []) (tys := []) hPc hDc hK hG hZ hS hFc⟩ rfl rfl hl.1 rfl (lv_room (Nat.le_of_ble_eq_true rfl)) dX2_putBetween_2 ⟨show 0 + 0 ≤ 0 from (by omega), show 0 + 0 ≤ 0 from (by omega)⟩) hS (fun q _ h => hFc q h) hFc (fun u dn_2 dm_3 t H locs ht hvm hq_1 hB hk1 hS => ?_)
  obtain ⟨z_4, tl_5, F_6⟩ := u
  obtain ⟨hP1, hK1, hD1⟩ := hB
  rw [ht] at hP1
  obtain ⟨hP, hD⟩ := xj (wr := []) (w1 := (pU cB o r n z_4 tl_5 F_6)) (ws' := (pU cB o r n z_4 tl_5 F_6)) hP hD [0, 1] [] [0, 1] rfl rfl (by decide) (by decide) hk1 hFc hP1 hD1 rfl (by decide)
  refine W.eq (g2 := F0 m 5 ls []) rfl ?_
  try dsimp only at hq_1
  obtain ⟨hd7, hm7, hz7, ht7, hF7⟩ := hq_1
  subst hd7
  subst hm7
  refine lv_aload_n hx hb dX2_putBetween_5 rfl (lv_at hl 0 rfl) ?_
  refine lv_bipush (v := iz 32) hx hb dX2_putBetween_6 (by decide) ?_
  have hPc := hP.sub (ws' := (pU cB o r n z_4 tl_5 F_6)) [0, 1] rfl
  have hDc := hD.sub (ws' := (pU cB o r n z_4 tl_5 F_6)) [0, 1] (by decide) rfl
  have hFc := va_free (wc := (pU cB o r n z_4 tl_5 F_6)) hD hS hA [0, 1] rfl
  refine xk_call (va_runV (As := [.int (iz 32)]) (rest := []) ⟨hx, hb, hml, hown, hts⟩ (x_put l dC dI cI cB cE o r n z_4 tl_5 F_6 32 H.size (by omega) (by omega) hF7 (by omega) (by omega)) (cwV 1 hts (kx_gV kq_15_xspan_14 kq_15_xspan_15 kq_15_xspan_16 kq_15_xspan_17 kq_15_xspan_18 rfl) rfl rfl rfl (by decide +kernel) ⟨Nat.le_of_ble_eq_true rfl, Nat.le_of_ble_eq_true rfl⟩) ⟨kx_blind, va_recv hK hPc (ci := 2) (q0 := 0) rfl rfl, kx_give (ws := []) (tys := []) hPc hDc hK hG hZ hS hFc⟩ rfl rfl hl.1 rfl (lv_room (Nat.le_of_ble_eq_true rfl)) dX2_putBetween_8 ⟨show (0 + 0) + 0 ≤ 0 from (by omega), show (0 + 0) + 0 ≤ 0 from (by omega)⟩) hS (fun q _ h => hFc q h) hFc (fun u dn_9 dm_10 t H locs ht hvm hq_8 hB hk1 hS => ?_)
  obtain ⟨z_11, tl_12, F_13⟩ := u
  obtain ⟨hP1, hK1, hD1⟩ := hB
  rw [ht] at hP1
  obtain ⟨hP, hD⟩ := xj (wr := []) (w1 := (pU cB o r n z_11 tl_12 F_13)) (ws' := (pU cB o r n z_11 tl_12 F_13)) hP hD [0, 1] [] [0, 1] rfl rfl (by decide) (by decide) hk1 hFc hP1 hD1 rfl (by decide)
  refine W.eq (g2 := F0 m 11 ls []) rfl ?_
  try dsimp only at hq_8
  obtain ⟨hd14, hm14, hz14, ht14, hF14⟩ := hq_8
  subst hd14
  subst hm14
  exact xk_vret (ov := (fun _ : Int × Int × (Int → Int) => none)) (post := (fun (u : Int × Int × (Int → Int)) (dn dm : Nat) => match u with | (z', tl', F') => dn = 0 ∧ dm = 0 ∧ (0 ≤ z' ∧ z' ≤ (n : Int)) ∧ (tl' = 0 ∨ tl' = 1) ∧ iB F')) (ws := (fun u : Int × Int × (Int → Int) => match u with | (z', tl', F') => (pU cB o r n z' tl' F'))) (tys := xT cI cB cE) (z_11, tl_12, F_13) hx hb hr hlocks rfl hP hD hK hS dX2_putBetween_11 (fun dn dm hdn hdm => ⟨by omega, by omega, by omega, by omega, hF14⟩) (by omega) (by omega)
set_option maxHeartbeats 4000000 in
set_option maxRecDepth 100000 in
theorem x_putRomanDigit (l : Launch) (dC : Nat → ClassId) (dI : Nat → Nat → Nat) (cI cB cE : ClassId) (o : Nat) (r : Nat) (n : Nat) (z : Int) (tl : Int) (F : Int → Int) (p0 : Int) (p1 : Int) (p2 : Int) (p3 : Int) (sz : Nat) (hok : 0 ≤ z ∧ z ≤ (n : Int) ∧ (n = 0 ∨ n = 6000)) (ht : tl = 0 ∨ tl = 1) (hF : iB F) (hp01 : -2147483648 ≤ p0) (hp02 : p0 < 2147483648) (hp11 : -2147483648 ≤ p1) (hp12 : p1 < 2147483648) (hp21 : -2147483648 ≤ p2) (hp22 : p2 < 2147483648) (hp31 : -2147483648 ≤ p3) (hp32 : p3 < 2147483648) : Met l yX2_putRomanDigit [.code yX2_putRomanDigit cX2_putRomanDigit 6 none] ({ frames := 1, cells := 0, slots := 0, locals := 21 }) (va_Pc [.ref o, .int (iz p0), .int (iz p1), .int (iz p2), .int (iz p3)] (kx_Pre dC dI (pU cB o r n z tl F) (xT cI cB cE) sz)) (xQ (fun _ : Int × Int × (Int → Int) => none) (fun (u : Int × Int × (Int → Int)) (dn dm : Nat) => match u with | (z', tl', F') => dn = 0 ∧ dm = 0 ∧ (0 ≤ z' ∧ z' ≤ (n : Int)) ∧ (tl' = 0 ∨ tl' = 1) ∧ iB F') (fun u t => kx_At dC dI (va_A (pU cB o r n z tl F) sz) ((fun u : Int × Int × (Int → Int) => match u with | (z', tl', F') => (pU cB o r n z' tl' F')) u) (xT cI cB cE) t) (va_A (pU cB o r n z tl F) sz)) 0 0 (va_A (pU cB o r n z tl F) sz) := by
  refine Met.ofW (cc := cX2_putRomanDigit) (maxL := 6) (ret := none) (by decide) rfl ?_
  intro p e s m args below meth c s₁ B hml hv
  obtain ⟨rfl, hsz, hP, hK, hD0, hG, hZ⟩ := hv
  have hx := B.exec
  have hb := B.bytes
  have hr := B.returns
  have hts := kx_hts (a := ([.ref o, .int (iz p0), .int (iz p1), .int (iz p2), .int (iz p3)] : List Value).toArray) hG
  have hown : s.vm.findClass RX2 = some m.cls := findClass_of_methodNamed B.named
  have hlocks := B.notSynchronized
  subst hsz
  have hD := hD0.self (sz := s.heap.size)
  generalize hAe : va_A (pU cB o r n z tl F) s.heap.size = A at hD hZ ⊢
  have hA : ∀ q : Nat, s.heap.size ≤ q → A q := fun q h => by rw [← hAe]; exact Or.inr h
  have hS : va_S A s.heap s.heap [] := va_S.rf
  have hl := lv_entry ([.ref o, .int (iz p0), .int (iz p1), .int (iz p2), .int (iz p3)]) (n := 6) (Nat.le_of_ble_eq_true rfl)
  rw [lg_entry_eq]
  generalize (lg_sl ([.ref o, .int (iz p0), .int (iz p1), .int (iz p2), .int (iz p3)]) ++ List.replicate (6 - (lg_sl ([.ref o, .int (iz p0), .int (iz p1), .int (iz p2), .int (iz p3)])).length) Slot.unset).toArray = ls at hl ⊢
  have hl : lv_has ls 6 [(0, .ref o), (1, .int (iz p0)), (2, .int (iz p1)), (3, .int (iz p2)), (4, .int (iz p3))] := hl
  generalize hQe : MQ below (xQ (fun _ : Int × Int × (Int → Int) => none) (fun (u : Int × Int × (Int → Int)) (dn dm : Nat) => match u with | (z', tl', F') => dn = 0 ∧ dm = 0 ∧ (0 ≤ z' ∧ z' ≤ (n : Int)) ∧ (tl' = 0 ∨ tl' = 1) ∧ iB F') (fun u t => kx_At dC dI A ((fun u : Int × Int × (Int → Int) => match u with | (z', tl', F') => (pU cB o r n z' tl' F')) u) (xT cI cB cE) t) A) ([.ref o, .int (iz p0), .int (iz p1), .int (iz p2), .int (iz p3)] : List Value).toArray s 0 0 A = QQ
  refine lv_iload_n hx hb dX2_putRomanDigit_0 rfl (lv_at hl 1 rfl) ?_
  refine lv_iconst (v := iz 5) hx hb dX2_putRomanDigit_1 (by decide) ?_
  refine ki_tmod hx hb dX2_putRomanDigit_2 (by omega) (by omega) (by omega) (by omega) ?_
  have htm_1 := tmod_bd p0 (b := 5) (by omega)
  refine lv_iconst (v := iz 4) hx hb dX2_putRomanDigit_3 (by decide) ?_
  refine ki_icmp_ne (tgt := 28) hx hb dX2_putRomanDigit_4 (by decide) (by omega) (by omega) (by omega) (by omega) (fun c_2 => ?_) (fun c_2 => ?_)
  · skip
    refine lv_iload_n hx hb dX2_putRomanDigit_28 rfl (lv_at hl 1 rfl) ?_
    refine lv_iconst (v := iz 5) hx hb dX2_putRomanDigit_29 (by decide) ?_
    refine ki_icmp_lt (tgt := 38) hx hb dX2_putRomanDigit_30 (by decide) (by omega) (by omega) (by omega) (by omega) (fun c_3 => ?_) (fun c_3 => ?_)
    · skip
      refine lv_iconst (v := iz 0) hx hb dX2_putRomanDigit_38 (by decide) ?_
      refine lv_istore (lv' := [(5, .int (iz 0)), (0, .ref o), (1, .int (iz p0)), (2, .int (iz p1)), (3, .int (iz p2)), (4, .int (iz p3))]) hx hb dX2_putRomanDigit_39 hl (by decide) rfl (fun ls hl => ?_)
      have lp41 : ∀ (n0 : Nat) (k : Int) (zv : Int) (tv : Int) (Fv : Int → Int), ((0 ≤ k ∧ k ≤ 5) ∧ (0 ≤ zv ∧ zv ≤ (n : Int)) ∧ (tv = 0 ∨ tv = 1) ∧ (iB Fv)) → (5 - k).toNat < n0 → ∀ (H : Heap) (locs : List Loc), va_P (dC, dI) kxCl (pU cB o r n zv tv Fv) H → va_D A (pU cB o r n zv tv Fv) → va_S A s.heap H locs → ∀ ls : Array Slot, lv_has ls 6 [(5, .int (iz k)), (0, .ref o), (1, .int (iz p0)), (2, .int (iz p1)), (3, .int (iz p2)), (4, .int (iz p3))] → W p l e (headSpec [.code yX2_putRomanDigit cX2_putRomanDigit 6 none] ({ frames := 1, cells := 0, slots := 0, locals := 21 })).room s m ([.ref o, .int (iz p0), .int (iz p1), .int (iz p2), .int (iz p3)] : List Value).toArray below meth c H locs 0 0 QQ (F0 m 41 ls []) := by
        intro n0
        induction n0 with
        | zero => intro k zv tv Fv hinv hm0; exact absurd hm0 (Nat.not_lt_zero _)
        | succ n0 ih41 =>
          intro k zv tv Fv hinv hm0 H locs hP hD hS ls hl
          obtain ⟨hk, hzv, htv, hFv⟩ := hinv
          refine lv_iload hx hb dX2_putRomanDigit_41 (lv_at hl 0 rfl) ?_
          refine lv_iload_n hx hb dX2_putRomanDigit_43 rfl (lv_at hl 2 rfl) ?_
          refine lv_iconst (v := iz 5) hx hb dX2_putRomanDigit_44 (by decide) ?_
          refine ki_tmod hx hb dX2_putRomanDigit_45 (by omega) (by omega) (by omega) (by omega) ?_
          have htm_4 := tmod_bd p0 (b := 5) (by omega)
          refine ki_icmp_ge (tgt := 60) hx hb dX2_putRomanDigit_46 (by decide) (by omega) (by omega) (by omega) (by omega) (fun c_5 => ?_) (fun c_5 => ?_)
          · skip
            rw [← hQe]
            exact xk_vret (ov := (fun _ : Int × Int × (Int → Int) => none)) (post := (fun (u : Int × Int × (Int → Int)) (dn dm : Nat) => match u with | (z', tl', F') => dn = 0 ∧ dm = 0 ∧ (0 ≤ z' ∧ z' ≤ (n : Int)) ∧ (tl' = 0 ∨ tl' = 1) ∧ iB F')) (ws := (fun u : Int × Int × (Int → Int) => match u with | (z', tl', F') => (pU cB o r n z' tl' F'))) (tys := xT cI cB cE) (zv, tv, Fv) hx hb hr hlocks rfl hP hD hK hS dX2_putRomanDigit_60 (fun dn dm hdn hdm => ⟨by omega, by omega, by omega, by omega, hFv⟩) (by omega) (by omega)
          · skip
            refine lv_aload_n hx hb dX2_putRomanDigit_49 rfl (lv_at hl 1 rfl) ?_
            refine lv_iload_n hx hb dX2_putRomanDigit_50 rfl (lv_at hl 3 rfl) ?_
            have hPc := hP.sub (ws' := (pU cB o r n zv tv Fv)) [0, 1] rfl
            have hDc := hD.sub (ws' := (pU cB o r n zv tv Fv)) [0, 1] (by decide) rfl
            have hFc := va_free (wc := (pU cB o r n zv tv Fv)) hD hS hA [0, 1] rfl
            refine xk_call (va_runV (As := [.int (iz p1)]) (rest := []) ⟨hx, hb, hml, hown, hts⟩ (x_put l dC dI cI cB cE o r n zv tv Fv p1 H.size (by omega) (by omega) hFv (by omega) (by omega)) (cwV 1 hts (kx_gV kq_15_xspan_14 kq_15_xspan_15 kq_15_xspan_16 kq_15_xspan_17 kq_15_xspan_18 rfl) rfl rfl rfl (by decide +kernel) ⟨Nat.le_of_ble_eq_true rfl, Nat.le_of_ble_eq_true rfl⟩) ⟨kx_blind, va_recv hK hPc (ci := 2) (q0 := 0) rfl rfl, kx_give (ws := []) (tys := []) hPc hDc hK hG hZ hS hFc⟩ rfl rfl hl.1 rfl (lv_room (Nat.le_of_ble_eq_true rfl)) dX2_putRomanDigit_51 ⟨show 0 + 0 ≤ 0 from (by omega), show 0 + 0 ≤ 0 from (by omega)⟩) hS (fun q _ h => hFc q h) hFc (fun u dn_7 dm_8 t H locs ht hvm hq_6 hB hk1 hS => ?_)
            obtain ⟨z_9, tl_10, F_11⟩ := u
            obtain ⟨hP1, hK1, hD1⟩ := hB
            rw [ht] at hP1
            obtain ⟨hP, hD⟩ := xj (wr := []) (w1 := (pU cB o r n z_9 tl_10 F_11)) (ws' := (pU cB o r n z_9 tl_10 F_11)) hP hD [0, 1] [] [0, 1] rfl rfl (by decide) (by decide) hk1 hFc hP1 hD1 rfl (by decide)
            refine W.eq (g2 := F0 m 54 ls []) rfl ?_
            try dsimp only at hq_6
            obtain ⟨hd12, hm12, hz12, ht12, hF12⟩ := hq_6
            subst hd12
            subst hm12
            refine lv_iinc (v := iz (k + 1)) (lv' := [(5, .int (iz (k + 1))), (0, .ref o), (1, .int (iz p0)), (2, .int (iz p1)), (3, .int (iz p2)), (4, .int (iz p3))]) hx hb dX2_putRomanDigit_54 hl (k := 0) rfl (iz_add k 1) (by decide) rfl (fun ls hl => ?_)
            refine lv_goto (tgt := 41) hx hb dX2_putRomanDigit_57 (by decide) ?_
            exact ih41 (k + 1) z_9 tl_10 F_11 ⟨by omega, by omega, by omega, hF12⟩ (by omega) _ _ hP hD hS ls (lv_sub hl [0, 1, 2, 3, 4, 5] rfl)
      exact lp41 _ 0 z tl F ⟨by omega, by omega, by omega, hF⟩ (Nat.lt_succ_self _) _ _ hP hD hS ls (lv_sub hl [0, 1, 2, 3, 4, 5] rfl)
    · skip
      refine lv_aload_n hx hb dX2_putRomanDigit_33 rfl (lv_at hl 0 rfl) ?_
      refine lv_iload_n hx hb dX2_putRomanDigit_34 rfl (lv_at hl 3 rfl) ?_
      have hPc := hP.sub (ws' := (pU cB o r n z tl F)) [0, 1] rfl
      have hDc := hD.sub (ws' := (pU cB o r n z tl F)) [0, 1] (by decide) rfl
      have hFc := va_free (wc := (pU cB o r n z tl F)) hD hS hA [0, 1] rfl
      refine xk_call (va_runV (As := [.int (iz p2)]) (rest := []) ⟨hx, hb, hml, hown, hts⟩ (x_put l dC dI cI cB cE o r n z tl F p2 s.heap.size (by omega) (by omega) hF (by omega) (by omega)) (cwV 1 hts (kx_gV kq_15_xspan_14 kq_15_xspan_15 kq_15_xspan_16 kq_15_xspan_17 kq_15_xspan_18 rfl) rfl rfl rfl (by decide +kernel) ⟨Nat.le_of_ble_eq_true rfl, Nat.le_of_ble_eq_true rfl⟩) ⟨kx_blind, va_recv hK hPc (ci := 2) (q0 := 0) rfl rfl, kx_give (ws := []) (tys := []) hPc hDc hK hG hZ hS hFc⟩ rfl rfl hl.1 rfl (lv_room (Nat.le_of_ble_eq_true rfl)) dX2_putRomanDigit_35 ⟨show 0 + 0 ≤ 0 from (by omega), show 0 + 0 ≤ 0 from (by omega)⟩) hS (fun q _ h => hFc q h) hFc (fun u dn_14 dm_15 t H locs ht hvm hq_13 hB hk1 hS => ?_)
      obtain ⟨z_16, tl_17, F_18⟩ := u
      obtain ⟨hP1, hK1, hD1⟩ := hB
      rw [ht] at hP1
      obtain ⟨hP, hD⟩ := xj (wr := []) (w1 := (pU cB o r n z_16 tl_17 F_18)) (ws' := (pU cB o r n z_16 tl_17 F_18)) hP hD [0, 1] [] [0, 1] rfl rfl (by decide) (by decide) hk1 hFc hP1 hD1 rfl (by decide)
      refine W.eq (g2 := F0 m 38 ls []) rfl ?_
      try dsimp only at hq_13
      obtain ⟨hd19, hm19, hz19, ht19, hF19⟩ := hq_13
      subst hd19
      subst hm19
      refine lv_iconst (v := iz 0) hx hb dX2_putRomanDigit_38 (by decide) ?_
      refine lv_istore (lv' := [(5, .int (iz 0)), (0, .ref o), (1, .int (iz p0)), (2, .int (iz p1)), (3, .int (iz p2)), (4, .int (iz p3))]) hx hb dX2_putRomanDigit_39 hl (by decide) rfl (fun ls hl => ?_)
      have lp41 : ∀ (n0 : Nat) (k : Int) (zv : Int) (tv : Int) (Fv : Int → Int), ((0 ≤ k ∧ k ≤ 5) ∧ (0 ≤ zv ∧ zv ≤ (n : Int)) ∧ (tv = 0 ∨ tv = 1) ∧ (iB Fv)) → (5 - k).toNat < n0 → ∀ (H : Heap) (locs : List Loc), va_P (dC, dI) kxCl (pU cB o r n zv tv Fv) H → va_D A (pU cB o r n zv tv Fv) → va_S A s.heap H locs → ∀ ls : Array Slot, lv_has ls 6 [(5, .int (iz k)), (0, .ref o), (1, .int (iz p0)), (2, .int (iz p1)), (3, .int (iz p2)), (4, .int (iz p3))] → W p l e (headSpec [.code yX2_putRomanDigit cX2_putRomanDigit 6 none] ({ frames := 1, cells := 0, slots := 0, locals := 21 })).room s m ([.ref o, .int (iz p0), .int (iz p1), .int (iz p2), .int (iz p3)] : List Value).toArray below meth c H locs (0 + 0) (0 + 0) QQ (F0 m 41 ls []) := by
        intro n0
        induction n0 with
        | zero => intro k zv tv Fv hinv hm0; exact absurd hm0 (Nat.not_lt_zero _)
        | succ n0 ih41 =>
          intro k zv tv Fv hinv hm0 H locs hP hD hS ls hl
          obtain ⟨hk, hzv, htv, hFv⟩ := hinv
          refine lv_iload hx hb dX2_putRomanDigit_41 (lv_at hl 0 rfl) ?_
          refine lv_iload_n hx hb dX2_putRomanDigit_43 rfl (lv_at hl 2 rfl) ?_
          refine lv_iconst (v := iz 5) hx hb dX2_putRomanDigit_44 (by decide) ?_
          refine ki_tmod hx hb dX2_putRomanDigit_45 (by omega) (by omega) (by omega) (by omega) ?_
          have htm_20 := tmod_bd p0 (b := 5) (by omega)
          refine ki_icmp_ge (tgt := 60) hx hb dX2_putRomanDigit_46 (by decide) (by omega) (by omega) (by omega) (by omega) (fun c_21 => ?_) (fun c_21 => ?_)
          · skip
            rw [← hQe]
            exact xk_vret (ov := (fun _ : Int × Int × (Int → Int) => none)) (post := (fun (u : Int × Int × (Int → Int)) (dn dm : Nat) => match u with | (z', tl', F') => dn = 0 ∧ dm = 0 ∧ (0 ≤ z' ∧ z' ≤ (n : Int)) ∧ (tl' = 0 ∨ tl' = 1) ∧ iB F')) (ws := (fun u : Int × Int × (Int → Int) => match u with | (z', tl', F') => (pU cB o r n z' tl' F'))) (tys := xT cI cB cE) (zv, tv, Fv) hx hb hr hlocks rfl hP hD hK hS dX2_putRomanDigit_60 (fun dn dm hdn hdm => ⟨by omega, by omega, by omega, by omega, hFv⟩) (by omega) (by omega)
          · skip
            refine lv_aload_n hx hb dX2_putRomanDigit_49 rfl (lv_at hl 1 rfl) ?_
            refine lv_iload_n hx hb dX2_putRomanDigit_50 rfl (lv_at hl 3 rfl) ?_
            have hPc := hP.sub (ws' := (pU cB o r n zv tv Fv)) [0, 1] rfl
            have hDc := hD.sub (ws' := (pU cB o r n zv tv Fv)) [0, 1] (by decide) rfl
            have hFc := va_free (wc := (pU cB o r n zv tv Fv)) hD hS hA [0, 1] rfl
            refine xk_call (va_runV (As := [.int (iz p1)]) (rest := []) ⟨hx, hb, hml, hown, hts⟩ (x_put l dC dI cI cB cE o r n zv tv Fv p1 H.size (by omega) (by omega) hFv (by omega) (by omega)) (cwV 1 hts (kx_gV kq_15_xspan_14 kq_15_xspan_15 kq_15_xspan_16 kq_15_xspan_17 kq_15_xspan_18 rfl) rfl rfl rfl (by decide +kernel) ⟨Nat.le_of_ble_eq_true rfl, Nat.le_of_ble_eq_true rfl⟩) ⟨kx_blind, va_recv hK hPc (ci := 2) (q0 := 0) rfl rfl, kx_give (ws := []) (tys := []) hPc hDc hK hG hZ hS hFc⟩ rfl rfl hl.1 rfl (lv_room (Nat.le_of_ble_eq_true rfl)) dX2_putRomanDigit_51 ⟨show (0 + 0) + 0 ≤ 0 from (by omega), show (0 + 0) + 0 ≤ 0 from (by omega)⟩) hS (fun q _ h => hFc q h) hFc (fun u dn_23 dm_24 t H locs ht hvm hq_22 hB hk1 hS => ?_)
            obtain ⟨z_25, tl_26, F_27⟩ := u
            obtain ⟨hP1, hK1, hD1⟩ := hB
            rw [ht] at hP1
            obtain ⟨hP, hD⟩ := xj (wr := []) (w1 := (pU cB o r n z_25 tl_26 F_27)) (ws' := (pU cB o r n z_25 tl_26 F_27)) hP hD [0, 1] [] [0, 1] rfl rfl (by decide) (by decide) hk1 hFc hP1 hD1 rfl (by decide)
            refine W.eq (g2 := F0 m 54 ls []) rfl ?_
            try dsimp only at hq_22
            obtain ⟨hd28, hm28, hz28, ht28, hF28⟩ := hq_22
            subst hd28
            subst hm28
            refine lv_iinc (v := iz (k + 1)) (lv' := [(5, .int (iz (k + 1))), (0, .ref o), (1, .int (iz p0)), (2, .int (iz p1)), (3, .int (iz p2)), (4, .int (iz p3))]) hx hb dX2_putRomanDigit_54 hl (k := 0) rfl (iz_add k 1) (by decide) rfl (fun ls hl => ?_)
            refine lv_goto (tgt := 41) hx hb dX2_putRomanDigit_57 (by decide) ?_
            exact ih41 (k + 1) z_25 tl_26 F_27 ⟨by omega, by omega, by omega, hF28⟩ (by omega) _ _ hP hD hS ls (lv_sub hl [0, 1, 2, 3, 4, 5] rfl)
      exact lp41 _ 0 z_16 tl_17 F_18 ⟨by omega, by omega, by omega, hF19⟩ (Nat.lt_succ_self _) _ _ hP hD hS ls (lv_sub hl [0, 1, 2, 3, 4, 5] rfl)
  · skip
    refine lv_aload_n hx hb dX2_putRomanDigit_7 rfl (lv_at hl 0 rfl) ?_
    refine lv_iload_n hx hb dX2_putRomanDigit_8 rfl (lv_at hl 2 rfl) ?_
    have hPc := hP.sub (ws' := (pU cB o r n z tl F)) [0, 1] rfl
    have hDc := hD.sub (ws' := (pU cB o r n z tl F)) [0, 1] (by decide) rfl
    have hFc := va_free (wc := (pU cB o r n z tl F)) hD hS hA [0, 1] rfl
    refine xk_call (va_runV (As := [.int (iz p1)]) (rest := []) ⟨hx, hb, hml, hown, hts⟩ (x_put l dC dI cI cB cE o r n z tl F p1 s.heap.size (by omega) (by omega) hF (by omega) (by omega)) (cwV 1 hts (kx_gV kq_15_xspan_14 kq_15_xspan_15 kq_15_xspan_16 kq_15_xspan_17 kq_15_xspan_18 rfl) rfl rfl rfl (by decide +kernel) ⟨Nat.le_of_ble_eq_true rfl, Nat.le_of_ble_eq_true rfl⟩) ⟨kx_blind, va_recv hK hPc (ci := 2) (q0 := 0) rfl rfl, kx_give (ws := []) (tys := []) hPc hDc hK hG hZ hS hFc⟩ rfl rfl hl.1 rfl (lv_room (Nat.le_of_ble_eq_true rfl)) dX2_putRomanDigit_9 ⟨show 0 + 0 ≤ 0 from (by omega), show 0 + 0 ≤ 0 from (by omega)⟩) hS (fun q _ h => hFc q h) hFc (fun u dn_30 dm_31 t H locs ht hvm hq_29 hB hk1 hS => ?_)
    obtain ⟨z_32, tl_33, F_34⟩ := u
    obtain ⟨hP1, hK1, hD1⟩ := hB
    rw [ht] at hP1
    obtain ⟨hP, hD⟩ := xj (wr := []) (w1 := (pU cB o r n z_32 tl_33 F_34)) (ws' := (pU cB o r n z_32 tl_33 F_34)) hP hD [0, 1] [] [0, 1] rfl rfl (by decide) (by decide) hk1 hFc hP1 hD1 rfl (by decide)
    refine W.eq (g2 := F0 m 12 ls []) rfl ?_
    try dsimp only at hq_29
    obtain ⟨hd35, hm35, hz35, ht35, hF35⟩ := hq_29
    subst hd35
    subst hm35
    refine lv_aload_n hx hb dX2_putRomanDigit_12 rfl (lv_at hl 0 rfl) ?_
    refine lv_iload_n hx hb dX2_putRomanDigit_13 rfl (lv_at hl 1 rfl) ?_
    refine lv_iconst (v := iz 4) hx hb dX2_putRomanDigit_14 (by decide) ?_
    refine ki_icmp_ne (tgt := 22) hx hb dX2_putRomanDigit_15 (by decide) (by omega) (by omega) (by omega) (by omega) (fun c_36 => ?_) (fun c_36 => ?_)
    · skip
      refine lv_iload hx hb dX2_putRomanDigit_22 (lv_at hl 4 rfl) ?_
      have hPc := hP.sub (ws' := (pU cB o r n z_32 tl_33 F_34)) [0, 1] rfl
      have hDc := hD.sub (ws' := (pU cB o r n z_32 tl_33 F_34)) [0, 1] (by decide) rfl
      have hFc := va_free (wc := (pU cB o r n z_32 tl_33 F_34)) hD hS hA [0, 1] rfl
      refine xk_call (va_runV (As := [.int (iz p3)]) (rest := []) ⟨hx, hb, hml, hown, hts⟩ (x_put l dC dI cI cB cE o r n z_32 tl_33 F_34 p3 H.size (by omega) (by omega) hF35 (by omega) (by omega)) (cwV 1 hts (kx_gV kq_15_xspan_14 kq_15_xspan_15 kq_15_xspan_16 kq_15_xspan_17 kq_15_xspan_18 rfl) rfl rfl rfl (by decide +kernel) ⟨Nat.le_of_ble_eq_true rfl, Nat.le_of_ble_eq_true rfl⟩) ⟨kx_blind, va_recv hK hPc (ci := 2) (q0 := 0) rfl rfl, kx_give (ws := []) (tys := []) hPc hDc hK hG hZ hS hFc⟩ rfl rfl hl.1 rfl (lv_room (Nat.le_of_ble_eq_true rfl)) dX2_putRomanDigit_24 ⟨show (0 + 0) + 0 ≤ 0 from (by omega), show (0 + 0) + 0 ≤ 0 from (by omega)⟩) hS (fun q _ h => hFc q h) hFc (fun u dn_38 dm_39 t H locs ht hvm hq_37 hB hk1 hS => ?_)
      obtain ⟨z_40, tl_41, F_42⟩ := u
      obtain ⟨hP1, hK1, hD1⟩ := hB
      rw [ht] at hP1
      obtain ⟨hP, hD⟩ := xj (wr := []) (w1 := (pU cB o r n z_40 tl_41 F_42)) (ws' := (pU cB o r n z_40 tl_41 F_42)) hP hD [0, 1] [] [0, 1] rfl rfl (by decide) (by decide) hk1 hFc hP1 hD1 rfl (by decide)
      refine W.eq (g2 := F0 m 27 ls []) rfl ?_
      try dsimp only at hq_37
      obtain ⟨hd43, hm43, hz43, ht43, hF43⟩ := hq_37
      subst hd43
      subst hm43
      rw [← hQe]
      exact xk_vret (ov := (fun _ : Int × Int × (Int → Int) => none)) (post := (fun (u : Int × Int × (Int → Int)) (dn dm : Nat) => match u with | (z', tl', F') => dn = 0 ∧ dm = 0 ∧ (0 ≤ z' ∧ z' ≤ (n : Int)) ∧ (tl' = 0 ∨ tl' = 1) ∧ iB F')) (ws := (fun u : Int × Int × (Int → Int) => match u with | (z', tl', F') => (pU cB o r n z' tl' F'))) (tys := xT cI cB cE) (z_40, tl_41, F_42) hx hb hr hlocks rfl hP hD hK hS dX2_putRomanDigit_27 (fun dn dm hdn hdm => ⟨by omega, by omega, by omega, by omega, hF43⟩) (by omega) (by omega)
    · skip
      refine lv_iload_n hx hb dX2_putRomanDigit_18 rfl (lv_at hl 3 rfl) ?_
      refine lv_goto (tgt := 24) hx hb dX2_putRomanDigit_19 (by decide) ?_
      have hPc := hP.sub (ws' := (pU cB o r n z_32 tl_33 F_34)) [0, 1] rfl
      have hDc := hD.sub (ws' := (pU cB o r n z_32 tl_33 F_34)) [0, 1] (by decide) rfl
      have hFc := va_free (wc := (pU cB o r n z_32 tl_33 F_34)) hD hS hA [0, 1] rfl
      refine xk_call (va_runV (As := [.int (iz p2)]) (rest := []) ⟨hx, hb, hml, hown, hts⟩ (x_put l dC dI cI cB cE o r n z_32 tl_33 F_34 p2 H.size (by omega) (by omega) hF35 (by omega) (by omega)) (cwV 1 hts (kx_gV kq_15_xspan_14 kq_15_xspan_15 kq_15_xspan_16 kq_15_xspan_17 kq_15_xspan_18 rfl) rfl rfl rfl (by decide +kernel) ⟨Nat.le_of_ble_eq_true rfl, Nat.le_of_ble_eq_true rfl⟩) ⟨kx_blind, va_recv hK hPc (ci := 2) (q0 := 0) rfl rfl, kx_give (ws := []) (tys := []) hPc hDc hK hG hZ hS hFc⟩ rfl rfl hl.1 rfl (lv_room (Nat.le_of_ble_eq_true rfl)) dX2_putRomanDigit_24 ⟨show (0 + 0) + 0 ≤ 0 from (by omega), show (0 + 0) + 0 ≤ 0 from (by omega)⟩) hS (fun q _ h => hFc q h) hFc (fun u dn_45 dm_46 t H locs ht hvm hq_44 hB hk1 hS => ?_)
      obtain ⟨z_47, tl_48, F_49⟩ := u
      obtain ⟨hP1, hK1, hD1⟩ := hB
      rw [ht] at hP1
      obtain ⟨hP, hD⟩ := xj (wr := []) (w1 := (pU cB o r n z_47 tl_48 F_49)) (ws' := (pU cB o r n z_47 tl_48 F_49)) hP hD [0, 1] [] [0, 1] rfl rfl (by decide) (by decide) hk1 hFc hP1 hD1 rfl (by decide)
      refine W.eq (g2 := F0 m 27 ls []) rfl ?_
      try dsimp only at hq_44
      obtain ⟨hd50, hm50, hz50, ht50, hF50⟩ := hq_44
      subst hd50
      subst hm50
      rw [← hQe]
      exact xk_vret (ov := (fun _ : Int × Int × (Int → Int) => none)) (post := (fun (u : Int × Int × (Int → Int)) (dn dm : Nat) => match u with | (z', tl', F') => dn = 0 ∧ dm = 0 ∧ (0 ≤ z' ∧ z' ≤ (n : Int)) ∧ (tl' = 0 ∨ tl' = 1) ∧ iB F')) (ws := (fun u : Int × Int × (Int → Int) => match u with | (z', tl', F') => (pU cB o r n z' tl' F'))) (tys := xT cI cB cE) (z_47, tl_48, F_49) hx hb hr hlocks rfl hP hD hK hS dX2_putRomanDigit_27 (fun dn dm hdn hdm => ⟨by omega, by omega, by omega, by omega, hF50⟩) (by omega) (by omega)
set_option maxHeartbeats 4000000 in
set_option maxRecDepth 100000 in
theorem x_putNumber (l : Launch) (dC : Nat → ClassId) (dI : Nat → Nat → Nat) (cI cB cE : ClassId) (o : Nat) (r : Nat) (n : Nat) (z : Int) (tl : Int) (F : Int → Int) (p0 : Int) (sz : Nat) (hok : 0 ≤ z ∧ z ≤ (n : Int) ∧ (n = 0 ∨ n = 6000)) (ht : tl = 0 ∨ tl = 1) (hF : iB F) (hp01 : -2147483648 ≤ p0) (hp02 : p0 < 2147483648) : Met l yX2_putNumber [.code yX2_putNumber cX2_putNumber 3 none] ({ frames := 1, cells := 0, slots := 0, locals := 21 }) (va_Pc [.ref o, .int (iz p0)] (kx_Pre dC dI (pU cB o r n z tl F) (xT cI cB cE) sz)) (xQ (fun _ : Int × Int × (Int → Int) => none) (fun (u : Int × Int × (Int → Int)) (dn dm : Nat) => match u with | (z', tl', F') => dn = 0 ∧ dm = 0 ∧ (0 ≤ z' ∧ z' ≤ (n : Int)) ∧ (tl' = 0 ∨ tl' = 1) ∧ iB F') (fun u t => kx_At dC dI (va_A (pU cB o r n z tl F) sz) ((fun u : Int × Int × (Int → Int) => match u with | (z', tl', F') => (pU cB o r n z' tl' F')) u) (xT cI cB cE) t) (va_A (pU cB o r n z tl F) sz)) 0 0 (va_A (pU cB o r n z tl F) sz) := by
  refine Met.ofW (cc := cX2_putNumber) (maxL := 3) (ret := none) (by decide) rfl ?_
  intro p e s m args below meth c s₁ B hml hv
  obtain ⟨rfl, hsz, hP, hK, hD0, hG, hZ⟩ := hv
  have hx := B.exec
  have hb := B.bytes
  have hr := B.returns
  have hts := kx_hts (a := ([.ref o, .int (iz p0)] : List Value).toArray) hG
  have hown : s.vm.findClass RX2 = some m.cls := findClass_of_methodNamed B.named
  have hlocks := B.notSynchronized
  subst hsz
  have hD := hD0.self (sz := s.heap.size)
  generalize hAe : va_A (pU cB o r n z tl F) s.heap.size = A at hD hZ ⊢
  have hA : ∀ q : Nat, s.heap.size ≤ q → A q := fun q h => by rw [← hAe]; exact Or.inr h
  have hS : va_S A s.heap s.heap [] := va_S.rf
  have hl := lv_entry ([.ref o, .int (iz p0)]) (n := 3) (Nat.le_of_ble_eq_true rfl)
  rw [lg_entry_eq]
  generalize (lg_sl ([.ref o, .int (iz p0)]) ++ List.replicate (3 - (lg_sl ([.ref o, .int (iz p0)])).length) Slot.unset).toArray = ls at hl ⊢
  have hl : lv_has ls 3 [(0, .ref o), (1, .int (iz p0))] := hl
  generalize hQe : MQ below (xQ (fun _ : Int × Int × (Int → Int) => none) (fun (u : Int × Int × (Int → Int)) (dn dm : Nat) => match u with | (z', tl', F') => dn = 0 ∧ dm = 0 ∧ (0 ≤ z' ∧ z' ≤ (n : Int)) ∧ (tl' = 0 ∨ tl' = 1) ∧ iB F') (fun u t => kx_At dC dI A ((fun u : Int × Int × (Int → Int) => match u with | (z', tl', F') => (pU cB o r n z' tl' F')) u) (xT cI cB cE) t) A) ([.ref o, .int (iz p0)] : List Value).toArray s 0 0 A = QQ
  refine lv_sipush (v := iz 10000) hx hb dX2_putNumber_0 (by decide) ?_
  refine lv_istore_n (lv' := [(2, .int (iz 10000)), (0, .ref o), (1, .int (iz p0))]) hx hb dX2_putNumber_3 rfl hl (by decide) rfl (fun ls hl => ?_)
  have lp4 : ∀ (n0 : Nat) (k : Int) (zv : Int) (tv : Int) (Fv : Int → Int), ((0 ≤ k ∧ k ≤ 10000) ∧ (0 ≤ zv ∧ zv ≤ (n : Int)) ∧ (tv = 0 ∨ tv = 1) ∧ (iB Fv)) → (k).toNat < n0 → ∀ (H : Heap) (locs : List Loc), va_P (dC, dI) kxCl (pU cB o r n zv tv Fv) H → va_D A (pU cB o r n zv tv Fv) → va_S A s.heap H locs → ∀ ls : Array Slot, lv_has ls 3 [(2, .int (iz k)), (0, .ref o), (1, .int (iz p0))] → W p l e (headSpec [.code yX2_putNumber cX2_putNumber 3 none] ({ frames := 1, cells := 0, slots := 0, locals := 21 })).room s m ([.ref o, .int (iz p0)] : List Value).toArray below meth c H locs 0 0 QQ (F0 m 4 ls []) := by
    intro n0
    induction n0 with
    | zero => intro k zv tv Fv hinv hm0; exact absurd hm0 (Nat.not_lt_zero _)
    | succ n0 ih4 =>
      intro k zv tv Fv hinv hm0 H locs hP hD hS ls hl
      obtain ⟨hk, hzv, htv, hFv⟩ := hinv
      refine lv_iload_n hx hb dX2_putNumber_4 rfl (lv_at hl 0 rfl) ?_
      refine ki_if_le (tgt := 34) hx hb dX2_putNumber_5 (by decide) (by omega) (by omega) (fun c_1 => ?_) (fun c_1 => ?_)
      · skip
        rw [← hQe]
        exact xk_vret (ov := (fun _ : Int × Int × (Int → Int) => none)) (post := (fun (u : Int × Int × (Int → Int)) (dn dm : Nat) => match u with | (z', tl', F') => dn = 0 ∧ dm = 0 ∧ (0 ≤ z' ∧ z' ≤ (n : Int)) ∧ (tl' = 0 ∨ tl' = 1) ∧ iB F')) (ws := (fun u : Int × Int × (Int → Int) => match u with | (z', tl', F') => (pU cB o r n z' tl' F'))) (tys := xT cI cB cE) (zv, tv, Fv) hx hb hr hlocks rfl hP hD hK hS dX2_putNumber_34 (fun dn dm hdn hdm => ⟨by omega, by omega, by omega, by omega, hFv⟩) (by omega) (by omega)
      · skip
        refine lv_iload_n hx hb dX2_putNumber_8 rfl (lv_at hl 2 rfl) ?_
        refine lv_iload_n hx hb dX2_putNumber_9 rfl (lv_at hl 0 rfl) ?_
        refine ki_icmp_lt (tgt := 26) hx hb dX2_putNumber_10 (by decide) (by omega) (by omega) (by omega) (by omega) (fun c_2 => ?_) (fun c_2 => ?_)
        · skip
          refine lv_iload_n hx hb dX2_putNumber_26 rfl (lv_at hl 0 rfl) ?_
          refine lv_bipush (v := iz 10) hx hb dX2_putNumber_27 (by decide) ?_
          refine ki_idiv hx hb dX2_putNumber_29 (by omega) (by omega) (by omega) (by omega) ?_
          refine lv_istore_n (lv' := [(2, .int (iz (k / 10))), (0, .ref o), (1, .int (iz p0))]) hx hb dX2_putNumber_30 rfl hl (by decide) rfl (fun ls hl => ?_)
          refine lv_goto (tgt := 4) hx hb dX2_putNumber_31 (by decide) ?_
          exact ih4 (k / 10) zv tv Fv ⟨by omega, by omega, by omega, hFv⟩ (by omega) _ _ hP hD hS ls (lv_sub hl [0, 1, 2] rfl)
        · skip
          refine lv_aload_n hx hb dX2_putNumber_13 rfl (lv_at hl 1 rfl) ?_
          refine lv_bipush (v := iz 48) hx hb dX2_putNumber_14 (by decide) ?_
          refine lv_iload_n hx hb dX2_putNumber_16 rfl (lv_at hl 2 rfl) ?_
          refine lv_iload_n hx hb dX2_putNumber_17 rfl (lv_at hl 0 rfl) ?_
          refine lv_idiv hx hb dX2_putNumber_18 (fun h9 => by rw [iz_0, iz_eq (by omega) (by omega) (by omega) (by omega)] at h9; omega) ?_
          refine ki_any (fun z_3 hz_3a hz_3b => ?_)
          refine lv_bipush (v := iz 10) hx hb dX2_putNumber_19 (by decide) ?_
          refine lv_irem hx hb dX2_putNumber_21 (show ¬ iz 10 = 0 by decide) ?_
          refine ki_any (fun z_4 hz_4a hz_4b => ?_)
          refine ki_iadd hx hb dX2_putNumber_22 ?_
          refine ki_any (fun z_5 hz_5a hz_5b => ?_)
          have hPc := hP.sub (ws' := (pU cB o r n zv tv Fv)) [0, 1] rfl
          have hDc := hD.sub (ws' := (pU cB o r n zv tv Fv)) [0, 1] (by decide) rfl
          have hFc := va_free (wc := (pU cB o r n zv tv Fv)) hD hS hA [0, 1] rfl
          refine xk_call (va_runV (As := [.int (iz z_5)]) (rest := []) ⟨hx, hb, hml, hown, hts⟩ (x_put l dC dI cI cB cE o r n zv tv Fv z_5 H.size (by omega) (by omega) hFv (by omega) (by omega)) (cwV 1 hts (kx_gV kq_15_xspan_14 kq_15_xspan_15 kq_15_xspan_16 kq_15_xspan_17 kq_15_xspan_18 rfl) rfl rfl rfl (by decide +kernel) ⟨Nat.le_of_ble_eq_true rfl, Nat.le_of_ble_eq_true rfl⟩) ⟨kx_blind, va_recv hK hPc (ci := 2) (q0 := 0) rfl rfl, kx_give (ws := []) (tys := []) hPc hDc hK hG hZ hS hFc⟩ rfl rfl hl.1 rfl (lv_room (Nat.le_of_ble_eq_true rfl)) dX2_putNumber_23 ⟨show 0 + 0 ≤ 0 from (by omega), show 0 + 0 ≤ 0 from (by omega)⟩) hS (fun q _ h => hFc q h) hFc (fun u dn_7 dm_8 t H locs ht hvm hq_6 hB hk1 hS => ?_)
          obtain ⟨z_9, tl_10, F_11⟩ := u
          obtain ⟨hP1, hK1, hD1⟩ := hB
          rw [ht] at hP1
          obtain ⟨hP, hD⟩ := xj (wr := []) (w1 := (pU cB o r n z_9 tl_10 F_11)) (ws' := (pU cB o r n z_9 tl_10 F_11)) hP hD [0, 1] [] [0, 1] rfl rfl (by decide) (by decide) hk1 hFc hP1 hD1 rfl (by decide)
          refine W.eq (g2 := F0 m 26 ls []) rfl ?_
          try dsimp only at hq_6
          obtain ⟨hd12, hm12, hz12, ht12, hF12⟩ := hq_6
          subst hd12
          subst hm12
          refine lv_iload_n hx hb dX2_putNumber_26 rfl (lv_at hl 0 rfl) ?_
          refine lv_bipush (v := iz 10) hx hb dX2_putNumber_27 (by decide) ?_
          refine ki_idiv hx hb dX2_putNumber_29 (by omega) (by omega) (by omega) (by omega) ?_
          refine lv_istore_n (lv' := [(2, .int (iz (k / 10))), (0, .ref o), (1, .int (iz p0))]) hx hb dX2_putNumber_30 rfl hl (by decide) rfl (fun ls hl => ?_)
          refine lv_goto (tgt := 4) hx hb dX2_putNumber_31 (by decide) ?_
          exact ih4 (k / 10) z_9 tl_10 F_11 ⟨by omega, by omega, by omega, hF12⟩ (by omega) _ _ hP hD hS ls (lv_sub hl [0, 1, 2] rfl)
  exact lp4 _ 10000 z tl F ⟨by omega, by omega, by omega, hF⟩ (Nat.lt_succ_self _) _ _ hP hD hS ls (lv_sub hl [0, 1, 2] rfl)
set_option maxHeartbeats 4000000 in
set_option maxRecDepth 100000 in
theorem x_putLetters (l : Launch) (dC : Nat → ClassId) (dI : Nat → Nat → Nat) (cI cB cE : ClassId) (o : Nat) (r : Nat) (n : Nat) (z : Int) (tl : Int) (F : Int → Int) (p0 : Int) (sz : Nat) (hok : 0 ≤ z ∧ z ≤ (n : Int) ∧ (n = 0 ∨ n = 6000)) (ht : tl = 0 ∨ tl = 1) (hF : iB F) (hp01 : -2147483648 ≤ p0) (hp02 : p0 < 2147483648) : Met l yX2_putLetters [.code yX2_putLetters cX2_putLetters 2 none] ({ frames := 1, cells := 0, slots := 0, locals := 21 }) (va_Pc [.ref o, .int (iz p0)] (kx_Pre dC dI (pU cB o r n z tl F) (xT cI cB cE) sz)) (xQ (fun _ : Int × Int × (Int → Int) => none) (fun (u : Int × Int × (Int → Int)) (dn dm : Nat) => match u with | (z', tl', F') => dn = 0 ∧ dm = 0 ∧ (0 ≤ z' ∧ z' ≤ (n : Int)) ∧ (tl' = 0 ∨ tl' = 1) ∧ iB F') (fun u t => kx_At dC dI (va_A (pU cB o r n z tl F) sz) ((fun u : Int × Int × (Int → Int) => match u with | (z', tl', F') => (pU cB o r n z' tl' F')) u) (xT cI cB cE) t) (va_A (pU cB o r n z tl F) sz)) 0 0 (va_A (pU cB o r n z tl F) sz) := by
  refine Met.ofW (cc := cX2_putLetters) (maxL := 2) (ret := none) (by decide) rfl ?_
  intro p e s m args below meth c s₁ B hml hv
  obtain ⟨rfl, hsz, hP, hK, hD0, hG, hZ⟩ := hv
  have hx := B.exec
  have hb := B.bytes
  have hr := B.returns
  have hts := kx_hts (a := ([.ref o, .int (iz p0)] : List Value).toArray) hG
  have hown : s.vm.findClass RX2 = some m.cls := findClass_of_methodNamed B.named
  have hlocks := B.notSynchronized
  subst hsz
  have hD := hD0.self (sz := s.heap.size)
  generalize hAe : va_A (pU cB o r n z tl F) s.heap.size = A at hD hZ ⊢
  have hA : ∀ q : Nat, s.heap.size ≤ q → A q := fun q h => by rw [← hAe]; exact Or.inr h
  have hS : va_S A s.heap s.heap [] := va_S.rf
  have hl := lv_entry ([.ref o, .int (iz p0)]) (n := 2) (Nat.le_of_ble_eq_true rfl)
  rw [lg_entry_eq]
  generalize (lg_sl ([.ref o, .int (iz p0)]) ++ List.replicate (2 - (lg_sl ([.ref o, .int (iz p0)])).length) Slot.unset).toArray = ls at hl ⊢
  have hl : lv_has ls 2 [(0, .ref o), (1, .int (iz p0))] := hl
  refine lv_iload_n hx hb dX2_putLetters_0 rfl (lv_at hl 1 rfl) ?_
  refine lv_bipush (v := iz 26) hx hb dX2_putLetters_1 (by decide) ?_
  refine ki_icmp_le (tgt := 21) hx hb dX2_putLetters_3 (by decide) (by omega) (by omega) (by omega) (by omega) (fun c_1 => ?_) (fun c_1 => ?_)
  · skip
    refine lv_aload_n hx hb dX2_putLetters_21 rfl (lv_at hl 0 rfl) ?_
    refine lv_bipush (v := iz 97) hx hb dX2_putLetters_22 (by decide) ?_
    refine lv_iload_n hx hb dX2_putLetters_24 rfl (lv_at hl 1 rfl) ?_
    refine lv_iconst (v := iz 1) hx hb dX2_putLetters_25 (by decide) ?_
    refine ki_isub hx hb dX2_putLetters_26 ?_
    refine ki_any (fun z_2 hz_2a hz_2b => ?_)
    refine lv_bipush (v := iz 26) hx hb dX2_putLetters_27 (by decide) ?_
    refine lv_irem hx hb dX2_putLetters_29 (show ¬ iz 26 = 0 by decide) ?_
    refine ki_any (fun z_3 hz_3a hz_3b => ?_)
    refine ki_iadd hx hb dX2_putLetters_30 ?_
    refine ki_any (fun z_4 hz_4a hz_4b => ?_)
    have hPc := hP.sub (ws' := (pU cB o r n z tl F)) [0, 1] rfl
    have hDc := hD.sub (ws' := (pU cB o r n z tl F)) [0, 1] (by decide) rfl
    have hFc := va_free (wc := (pU cB o r n z tl F)) hD hS hA [0, 1] rfl
    refine xk_call (va_runV (As := [.int (iz z_4)]) (rest := []) ⟨hx, hb, hml, hown, hts⟩ (x_put l dC dI cI cB cE o r n z tl F z_4 s.heap.size (by omega) (by omega) hF (by omega) (by omega)) (cwV 1 hts (kx_gV kq_15_xspan_14 kq_15_xspan_15 kq_15_xspan_16 kq_15_xspan_17 kq_15_xspan_18 rfl) rfl rfl rfl (by decide +kernel) ⟨Nat.le_of_ble_eq_true rfl, Nat.le_of_ble_eq_true rfl⟩) ⟨kx_blind, va_recv hK hPc (ci := 2) (q0 := 0) rfl rfl, kx_give (ws := []) (tys := []) hPc hDc hK hG hZ hS hFc⟩ rfl rfl hl.1 rfl (lv_room (Nat.le_of_ble_eq_true rfl)) dX2_putLetters_31 ⟨show 0 + 0 ≤ 0 from (by omega), show 0 + 0 ≤ 0 from (by omega)⟩) hS (fun q _ h => hFc q h) hFc (fun u dn_6 dm_7 t H locs ht hvm hq_5 hB hk1 hS => ?_)
    obtain ⟨z_8, tl_9, F_10⟩ := u
    obtain ⟨hP1, hK1, hD1⟩ := hB
    rw [ht] at hP1
    obtain ⟨hP, hD⟩ := xj (wr := []) (w1 := (pU cB o r n z_8 tl_9 F_10)) (ws' := (pU cB o r n z_8 tl_9 F_10)) hP hD [0, 1] [] [0, 1] rfl rfl (by decide) (by decide) hk1 hFc hP1 hD1 rfl (by decide)
    refine W.eq (g2 := F0 m 34 ls []) rfl ?_
    try dsimp only at hq_5
    obtain ⟨hd11, hm11, hz11, ht11, hF11⟩ := hq_5
    subst hd11
    subst hm11
    exact xk_vret (ov := (fun _ : Int × Int × (Int → Int) => none)) (post := (fun (u : Int × Int × (Int → Int)) (dn dm : Nat) => match u with | (z', tl', F') => dn = 0 ∧ dm = 0 ∧ (0 ≤ z' ∧ z' ≤ (n : Int)) ∧ (tl' = 0 ∨ tl' = 1) ∧ iB F')) (ws := (fun u : Int × Int × (Int → Int) => match u with | (z', tl', F') => (pU cB o r n z' tl' F'))) (tys := xT cI cB cE) (z_8, tl_9, F_10) hx hb hr hlocks rfl hP hD hK hS dX2_putLetters_34 (fun dn dm hdn hdm => ⟨by omega, by omega, by omega, by omega, hF11⟩) (by omega) (by omega)
  · skip
    refine lv_aload_n hx hb dX2_putLetters_6 rfl (lv_at hl 0 rfl) ?_
    refine lv_bipush (v := iz 97) hx hb dX2_putLetters_7 (by decide) ?_
    refine lv_iload_n hx hb dX2_putLetters_9 rfl (lv_at hl 1 rfl) ?_
    refine lv_iconst (v := iz 1) hx hb dX2_putLetters_10 (by decide) ?_
    refine ki_isub hx hb dX2_putLetters_11 ?_
    refine ki_any (fun z_12 hz_12a hz_12b => ?_)
    refine lv_bipush (v := iz 26) hx hb dX2_putLetters_12 (by decide) ?_
    refine lv_idiv hx hb dX2_putLetters_14 (show ¬ iz 26 = 0 by decide) ?_
    refine ki_any (fun z_13 hz_13a hz_13b => ?_)
    refine ki_iadd hx hb dX2_putLetters_15 ?_
    refine ki_any (fun z_14 hz_14a hz_14b => ?_)
    refine lv_iconst (v := iz 1) hx hb dX2_putLetters_16 (by decide) ?_
    refine ki_isub hx hb dX2_putLetters_17 ?_
    refine ki_any (fun z_15 hz_15a hz_15b => ?_)
    have hPc := hP.sub (ws' := (pU cB o r n z tl F)) [0, 1] rfl
    have hDc := hD.sub (ws' := (pU cB o r n z tl F)) [0, 1] (by decide) rfl
    have hFc := va_free (wc := (pU cB o r n z tl F)) hD hS hA [0, 1] rfl
    refine xk_call (va_runV (As := [.int (iz z_15)]) (rest := []) ⟨hx, hb, hml, hown, hts⟩ (x_put l dC dI cI cB cE o r n z tl F z_15 s.heap.size (by omega) (by omega) hF (by omega) (by omega)) (cwV 1 hts (kx_gV kq_15_xspan_14 kq_15_xspan_15 kq_15_xspan_16 kq_15_xspan_17 kq_15_xspan_18 rfl) rfl rfl rfl (by decide +kernel) ⟨Nat.le_of_ble_eq_true rfl, Nat.le_of_ble_eq_true rfl⟩) ⟨kx_blind, va_recv hK hPc (ci := 2) (q0 := 0) rfl rfl, kx_give (ws := []) (tys := []) hPc hDc hK hG hZ hS hFc⟩ rfl rfl hl.1 rfl (lv_room (Nat.le_of_ble_eq_true rfl)) dX2_putLetters_18 ⟨show 0 + 0 ≤ 0 from (by omega), show 0 + 0 ≤ 0 from (by omega)⟩) hS (fun q _ h => hFc q h) hFc (fun u dn_17 dm_18 t H locs ht hvm hq_16 hB hk1 hS => ?_)
    obtain ⟨z_19, tl_20, F_21⟩ := u
    obtain ⟨hP1, hK1, hD1⟩ := hB
    rw [ht] at hP1
    obtain ⟨hP, hD⟩ := xj (wr := []) (w1 := (pU cB o r n z_19 tl_20 F_21)) (ws' := (pU cB o r n z_19 tl_20 F_21)) hP hD [0, 1] [] [0, 1] rfl rfl (by decide) (by decide) hk1 hFc hP1 hD1 rfl (by decide)
    refine W.eq (g2 := F0 m 21 ls []) rfl ?_
    try dsimp only at hq_16
    obtain ⟨hd22, hm22, hz22, ht22, hF22⟩ := hq_16
    subst hd22
    subst hm22
    refine lv_aload_n hx hb dX2_putLetters_21 rfl (lv_at hl 0 rfl) ?_
    refine lv_bipush (v := iz 97) hx hb dX2_putLetters_22 (by decide) ?_
    refine lv_iload_n hx hb dX2_putLetters_24 rfl (lv_at hl 1 rfl) ?_
    refine lv_iconst (v := iz 1) hx hb dX2_putLetters_25 (by decide) ?_
    refine ki_isub hx hb dX2_putLetters_26 ?_
    refine ki_any (fun z_23 hz_23a hz_23b => ?_)
    refine lv_bipush (v := iz 26) hx hb dX2_putLetters_27 (by decide) ?_
    refine lv_irem hx hb dX2_putLetters_29 (show ¬ iz 26 = 0 by decide) ?_
    refine ki_any (fun z_24 hz_24a hz_24b => ?_)
    refine ki_iadd hx hb dX2_putLetters_30 ?_
    refine ki_any (fun z_25 hz_25a hz_25b => ?_)
    have hPc := hP.sub (ws' := (pU cB o r n z_19 tl_20 F_21)) [0, 1] rfl
    have hDc := hD.sub (ws' := (pU cB o r n z_19 tl_20 F_21)) [0, 1] (by decide) rfl
    have hFc := va_free (wc := (pU cB o r n z_19 tl_20 F_21)) hD hS hA [0, 1] rfl
    refine xk_call (va_runV (As := [.int (iz z_25)]) (rest := []) ⟨hx, hb, hml, hown, hts⟩ (x_put l dC dI cI cB cE o r n z_19 tl_20 F_21 z_25 H.size (by omega) (by omega) hF22 (by omega) (by omega)) (cwV 1 hts (kx_gV kq_15_xspan_14 kq_15_xspan_15 kq_15_xspan_16 kq_15_xspan_17 kq_15_xspan_18 rfl) rfl rfl rfl (by decide +kernel) ⟨Nat.le_of_ble_eq_true rfl, Nat.le_of_ble_eq_true rfl⟩) ⟨kx_blind, va_recv hK hPc (ci := 2) (q0 := 0) rfl rfl, kx_give (ws := []) (tys := []) hPc hDc hK hG hZ hS hFc⟩ rfl rfl hl.1 rfl (lv_room (Nat.le_of_ble_eq_true rfl)) dX2_putLetters_31 ⟨show (0 + 0) + 0 ≤ 0 from (by omega), show (0 + 0) + 0 ≤ 0 from (by omega)⟩) hS (fun q _ h => hFc q h) hFc (fun u dn_27 dm_28 t H locs ht hvm hq_26 hB hk1 hS => ?_)
    obtain ⟨z_29, tl_30, F_31⟩ := u
    obtain ⟨hP1, hK1, hD1⟩ := hB
    rw [ht] at hP1
    obtain ⟨hP, hD⟩ := xj (wr := []) (w1 := (pU cB o r n z_29 tl_30 F_31)) (ws' := (pU cB o r n z_29 tl_30 F_31)) hP hD [0, 1] [] [0, 1] rfl rfl (by decide) (by decide) hk1 hFc hP1 hD1 rfl (by decide)
    refine W.eq (g2 := F0 m 34 ls []) rfl ?_
    try dsimp only at hq_26
    obtain ⟨hd32, hm32, hz32, ht32, hF32⟩ := hq_26
    subst hd32
    subst hm32
    exact xk_vret (ov := (fun _ : Int × Int × (Int → Int) => none)) (post := (fun (u : Int × Int × (Int → Int)) (dn dm : Nat) => match u with | (z', tl', F') => dn = 0 ∧ dm = 0 ∧ (0 ≤ z' ∧ z' ≤ (n : Int)) ∧ (tl' = 0 ∨ tl' = 1) ∧ iB F')) (ws := (fun u : Int × Int × (Int → Int) => match u with | (z', tl', F') => (pU cB o r n z' tl' F'))) (tys := xT cI cB cE) (z_29, tl_30, F_31) hx hb hr hlocks rfl hP hD hK hS dX2_putLetters_34 (fun dn dm hdn hdm => ⟨by omega, by omega, by omega, by omega, hF32⟩) (by omega) (by omega)
set_option maxHeartbeats 4000000 in
set_option maxRecDepth 100000 in
theorem x_putPage (l : Launch) (dC : Nat → ClassId) (dI : Nat → Nat → Nat) (cI cB cE : ClassId) (o : Nat) (r : Nat) (n : Nat) (z : Int) (tl : Int) (F : Int → Int) (p0 : Int) (sz : Nat) (hok : 0 ≤ z ∧ z ≤ (n : Int) ∧ (n = 0 ∨ n = 6000)) (ht : tl = 0 ∨ tl = 1) (hF : iB F) (hp01 : -2147483648 ≤ p0) (hp02 : p0 < 2147483648) : Met l yX2_putPage [.code yX2_putPage cX2_putPage 3 none] ({ frames := 2, cells := 0, slots := 0, locals := 46 }) (va_Pc [.ref o, .int (iz p0)] (kx_Pre dC dI (pU cB o r n z tl F) (xT cI cB cE) sz)) (xQ (fun _ : Int × Int × (Int → Int) => none) (fun (u : Int × Int × (Int → Int)) (dn dm : Nat) => match u with | (z', tl', F') => dn = 0 ∧ dm = 0 ∧ (0 ≤ z' ∧ z' ≤ (n : Int)) ∧ (tl' = 0 ∨ tl' = 1) ∧ iB F') (fun u t => kx_At dC dI (va_A (pU cB o r n z tl F) sz) ((fun u : Int × Int × (Int → Int) => match u with | (z', tl', F') => (pU cB o r n z' tl' F')) u) (xT cI cB cE) t) (va_A (pU cB o r n z tl F) sz)) 0 0 (va_A (pU cB o r n z tl F) sz) := by
  refine Met.ofW (cc := cX2_putPage) (maxL := 3) (ret := none) (by decide) rfl ?_
  intro p e s m args below meth c s₁ B hml hv
  obtain ⟨rfl, hsz, hP, hK, hD0, hG, hZ⟩ := hv
  have hx := B.exec
  have hb := B.bytes
  have hr := B.returns
  have hts := kx_hts (a := ([.ref o, .int (iz p0)] : List Value).toArray) hG
  have hown : s.vm.findClass RX2 = some m.cls := findClass_of_methodNamed B.named
  have hlocks := B.notSynchronized
  subst hsz
  have hD := hD0.self (sz := s.heap.size)
  generalize hAe : va_A (pU cB o r n z tl F) s.heap.size = A at hD hZ ⊢
  have hA : ∀ q : Nat, s.heap.size ≤ q → A q := fun q h => by rw [← hAe]; exact Or.inr h
  have hS : va_S A s.heap s.heap [] := va_S.rf
  have hl := lv_entry ([.ref o, .int (iz p0)]) (n := 3) (Nat.le_of_ble_eq_true rfl)
  rw [lg_entry_eq]
  generalize (lg_sl ([.ref o, .int (iz p0)]) ++ List.replicate (3 - (lg_sl ([.ref o, .int (iz p0)])).length) Slot.unset).toArray = ls at hl ⊢
  have hl : lv_has ls 3 [(0, .ref o), (1, .int (iz p0))] := hl
  refine lv_iload_n hx hb dX2_putPage_0 rfl (lv_at hl 1 rfl) ?_
  refine lv_ldc (v := 100000) hx hb hown (kx_word hG kq_15_xspan_19 rfl) dX2_putPage_1 ?_
  refine ki_is (show (100000 : Int32) = iz 100000 by decide) ?_
  refine lv_irem hx hb dX2_putPage_3 (show ¬ iz 100000 = 0 by decide) ?_
  refine ki_any (fun z_1 hz_1a hz_1b => ?_)
  refine lv_istore_n (lv' := [(2, .int (iz z_1)), (0, .ref o), (1, .int (iz p0))]) hx hb dX2_putPage_4 rfl hl (by decide) rfl (fun ls hl => ?_)
  refine lv_iload_n hx hb dX2_putPage_5 rfl (lv_at hl 2 rfl) ?_
  refine lv_ldc (v := 100000) hx hb hown (kx_word hG kq_15_xspan_19 rfl) dX2_putPage_6 ?_
  refine ki_is (show (100000 : Int32) = iz 100000 by decide) ?_
  refine lv_idiv hx hb dX2_putPage_8 (show ¬ iz 100000 = 0 by decide) ?_
  refine ki_any (fun z_2 hz_2a hz_2b => ?_)
  by_cases hsw_3 : z_2 = 0
  · skip
    refine ki_is (show iz (z_2) = iz 0 by rw [hsw_3]) ?_
    refine lv_lookup (off := 27) (tgt := 36) hx hb dX2_putPage_9 (by decide) (by decide) (by decide) ?_
    refine lv_aload_n hx hb dX2_putPage_36 rfl (lv_at hl 1 rfl) ?_
    refine lv_iload_n hx hb dX2_putPage_37 rfl (lv_at hl 0 rfl) ?_
    refine lv_sipush (v := iz 1000) hx hb dX2_putPage_38 (by decide) ?_
    refine lv_idiv hx hb dX2_putPage_41 (show ¬ iz 1000 = 0 by decide) ?_
    refine ki_any (fun z_4 hz_4a hz_4b => ?_)
    refine lv_bipush (v := iz 109) hx hb dX2_putPage_42 (by decide) ?_
    refine lv_bipush (v := iz 109) hx hb dX2_putPage_44 (by decide) ?_
    refine lv_bipush (v := iz 109) hx hb dX2_putPage_46 (by decide) ?_
    have hPc := hP.sub (ws' := (pU cB o r n z tl F)) [0, 1] rfl
    have hDc := hD.sub (ws' := (pU cB o r n z tl F)) [0, 1] (by decide) rfl
    have hFc := va_free (wc := (pU cB o r n z tl F)) hD hS hA [0, 1] rfl
    refine xk_call (va_runV (As := [.int (iz z_4), .int (iz 109), .int (iz 109), .int (iz 109)]) (rest := []) ⟨hx, hb, hml, hown, hts⟩ (x_putRomanDigit l dC dI cI cB cE o r n z tl F z_4 109 109 109 s.heap.size (by omega) (by omega) hF (by omega) (by omega) (by omega) (by omega) (by omega) (by omega) (by omega) (by omega)) (cwV 4 hts (kx_gV kq_15_xspan_20 kq_15_xspan_21 kq_15_xspan_22 kq_15_xspan_17 kq_15_xspan_23 rfl) rfl rfl rfl (by decide +kernel) ⟨Nat.le_of_ble_eq_true rfl, Nat.le_of_ble_eq_true rfl⟩) ⟨kx_blind, va_recv hK hPc (ci := 2) (q0 := 0) rfl rfl, kx_give (ws := []) (tys := []) hPc hDc hK hG hZ hS hFc⟩ rfl rfl hl.1 rfl (lv_room (Nat.le_of_ble_eq_true rfl)) dX2_putPage_48 ⟨show 0 + 0 ≤ 0 from (by omega), show 0 + 0 ≤ 0 from (by omega)⟩) hS (fun q _ h => hFc q h) hFc (fun u dn_6 dm_7 t H locs ht hvm hq_5 hB hk1 hS => ?_)
    obtain ⟨z_8, tl_9, F_10⟩ := u
    obtain ⟨hP1, hK1, hD1⟩ := hB
    rw [ht] at hP1
    obtain ⟨hP, hD⟩ := xj (wr := []) (w1 := (pU cB o r n z_8 tl_9 F_10)) (ws' := (pU cB o r n z_8 tl_9 F_10)) hP hD [0, 1] [] [0, 1] rfl rfl (by decide) (by decide) hk1 hFc hP1 hD1 rfl (by decide)
    refine W.eq (g2 := F0 m 51 ls []) rfl ?_
    try dsimp only at hq_5
    obtain ⟨hd11, hm11, hz11, ht11, hF11⟩ := hq_5
    subst hd11
    subst hm11
    refine lv_aload_n hx hb dX2_putPage_51 rfl (lv_at hl 1 rfl) ?_
    refine lv_iload_n hx hb dX2_putPage_52 rfl (lv_at hl 0 rfl) ?_
    refine lv_bipush (v := iz 100) hx hb dX2_putPage_53 (by decide) ?_
    refine lv_idiv hx hb dX2_putPage_55 (show ¬ iz 100 = 0 by decide) ?_
    refine ki_any (fun z_12 hz_12a hz_12b => ?_)
    refine lv_bipush (v := iz 10) hx hb dX2_putPage_56 (by decide) ?_
    refine lv_irem hx hb dX2_putPage_58 (show ¬ iz 10 = 0 by decide) ?_
    refine ki_any (fun z_13 hz_13a hz_13b => ?_)
    refine lv_bipush (v := iz 99) hx hb dX2_putPage_59 (by decide) ?_
    refine lv_bipush (v := iz 100) hx hb dX2_putPage_61 (by decide) ?_
    refine lv_bipush (v := iz 109) hx hb dX2_putPage_63 (by decide) ?_
    have hPc := hP.sub (ws' := (pU cB o r n z_8 tl_9 F_10)) [0, 1] rfl
    have hDc := hD.sub (ws' := (pU cB o r n z_8 tl_9 F_10)) [0, 1] (by decide) rfl
    have hFc := va_free (wc := (pU cB o r n z_8 tl_9 F_10)) hD hS hA [0, 1] rfl
    refine xk_call (va_runV (As := [.int (iz z_13), .int (iz 99), .int (iz 100), .int (iz 109)]) (rest := []) ⟨hx, hb, hml, hown, hts⟩ (x_putRomanDigit l dC dI cI cB cE o r n z_8 tl_9 F_10 z_13 99 100 109 H.size (by omega) (by omega) hF11 (by omega) (by omega) (by omega) (by omega) (by omega) (by omega) (by omega) (by omega)) (cwV 4 hts (kx_gV kq_15_xspan_20 kq_15_xspan_21 kq_15_xspan_22 kq_15_xspan_17 kq_15_xspan_23 rfl) rfl rfl rfl (by decide +kernel) ⟨Nat.le_of_ble_eq_true rfl, Nat.le_of_ble_eq_true rfl⟩) ⟨kx_blind, va_recv hK hPc (ci := 2) (q0 := 0) rfl rfl, kx_give (ws := []) (tys := []) hPc hDc hK hG hZ hS hFc⟩ rfl rfl hl.1 rfl (lv_room (Nat.le_of_ble_eq_true rfl)) dX2_putPage_65 ⟨show (0 + 0) + 0 ≤ 0 from (by omega), show (0 + 0) + 0 ≤ 0 from (by omega)⟩) hS (fun q _ h => hFc q h) hFc (fun u dn_15 dm_16 t H locs ht hvm hq_14 hB hk1 hS => ?_)
    obtain ⟨z_17, tl_18, F_19⟩ := u
    obtain ⟨hP1, hK1, hD1⟩ := hB
    rw [ht] at hP1
    obtain ⟨hP, hD⟩ := xj (wr := []) (w1 := (pU cB o r n z_17 tl_18 F_19)) (ws' := (pU cB o r n z_17 tl_18 F_19)) hP hD [0, 1] [] [0, 1] rfl rfl (by decide) (by decide) hk1 hFc hP1 hD1 rfl (by decide)
    refine W.eq (g2 := F0 m 68 ls []) rfl ?_
    try dsimp only at hq_14
    obtain ⟨hd20, hm20, hz20, ht20, hF20⟩ := hq_14
    subst hd20
    subst hm20
    refine lv_aload_n hx hb dX2_putPage_68 rfl (lv_at hl 1 rfl) ?_
    refine lv_iload_n hx hb dX2_putPage_69 rfl (lv_at hl 0 rfl) ?_
    refine lv_bipush (v := iz 10) hx hb dX2_putPage_70 (by decide) ?_
    refine lv_idiv hx hb dX2_putPage_72 (show ¬ iz 10 = 0 by decide) ?_
    refine ki_any (fun z_21 hz_21a hz_21b => ?_)
    refine lv_bipush (v := iz 10) hx hb dX2_putPage_73 (by decide) ?_
    refine lv_irem hx hb dX2_putPage_75 (show ¬ iz 10 = 0 by decide) ?_
    refine ki_any (fun z_22 hz_22a hz_22b => ?_)
    refine lv_bipush (v := iz 120) hx hb dX2_putPage_76 (by decide) ?_
    refine lv_bipush (v := iz 108) hx hb dX2_putPage_78 (by decide) ?_
    refine lv_bipush (v := iz 99) hx hb dX2_putPage_80 (by decide) ?_
    have hPc := hP.sub (ws' := (pU cB o r n z_17 tl_18 F_19)) [0, 1] rfl
    have hDc := hD.sub (ws' := (pU cB o r n z_17 tl_18 F_19)) [0, 1] (by decide) rfl
    have hFc := va_free (wc := (pU cB o r n z_17 tl_18 F_19)) hD hS hA [0, 1] rfl
    refine xk_call (va_runV (As := [.int (iz z_22), .int (iz 120), .int (iz 108), .int (iz 99)]) (rest := []) ⟨hx, hb, hml, hown, hts⟩ (x_putRomanDigit l dC dI cI cB cE o r n z_17 tl_18 F_19 z_22 120 108 99 H.size (by omega) (by omega) hF20 (by omega) (by omega) (by omega) (by omega) (by omega) (by omega) (by omega) (by omega)) (cwV 4 hts (kx_gV kq_15_xspan_20 kq_15_xspan_21 kq_15_xspan_22 kq_15_xspan_17 kq_15_xspan_23 rfl) rfl rfl rfl (by decide +kernel) ⟨Nat.le_of_ble_eq_true rfl, Nat.le_of_ble_eq_true rfl⟩) ⟨kx_blind, va_recv hK hPc (ci := 2) (q0 := 0) rfl rfl, kx_give (ws := []) (tys := []) hPc hDc hK hG hZ hS hFc⟩ rfl rfl hl.1 rfl (lv_room (Nat.le_of_ble_eq_true rfl)) dX2_putPage_82 ⟨show ((0 + 0) + 0) + 0 ≤ 0 from (by omega), show ((0 + 0) + 0) + 0 ≤ 0 from (by omega)⟩) hS (fun q _ h => hFc q h) hFc (fun u dn_24 dm_25 t H locs ht hvm hq_23 hB hk1 hS => ?_)
    obtain ⟨z_26, tl_27, F_28⟩ := u
    obtain ⟨hP1, hK1, hD1⟩ := hB
    rw [ht] at hP1
    obtain ⟨hP, hD⟩ := xj (wr := []) (w1 := (pU cB o r n z_26 tl_27 F_28)) (ws' := (pU cB o r n z_26 tl_27 F_28)) hP hD [0, 1] [] [0, 1] rfl rfl (by decide) (by decide) hk1 hFc hP1 hD1 rfl (by decide)
    refine W.eq (g2 := F0 m 85 ls []) rfl ?_
    try dsimp only at hq_23
    obtain ⟨hd29, hm29, hz29, ht29, hF29⟩ := hq_23
    subst hd29
    subst hm29
    refine lv_aload_n hx hb dX2_putPage_85 rfl (lv_at hl 1 rfl) ?_
    refine lv_iload_n hx hb dX2_putPage_86 rfl (lv_at hl 0 rfl) ?_
    refine lv_bipush (v := iz 10) hx hb dX2_putPage_87 (by decide) ?_
    refine lv_irem hx hb dX2_putPage_89 (show ¬ iz 10 = 0 by decide) ?_
    refine ki_any (fun z_30 hz_30a hz_30b => ?_)
    refine lv_bipush (v := iz 105) hx hb dX2_putPage_90 (by decide) ?_
    refine lv_bipush (v := iz 118) hx hb dX2_putPage_92 (by decide) ?_
    refine lv_bipush (v := iz 120) hx hb dX2_putPage_94 (by decide) ?_
    have hPc := hP.sub (ws' := (pU cB o r n z_26 tl_27 F_28)) [0, 1] rfl
    have hDc := hD.sub (ws' := (pU cB o r n z_26 tl_27 F_28)) [0, 1] (by decide) rfl
    have hFc := va_free (wc := (pU cB o r n z_26 tl_27 F_28)) hD hS hA [0, 1] rfl
    refine xk_call (va_runV (As := [.int (iz z_30), .int (iz 105), .int (iz 118), .int (iz 120)]) (rest := []) ⟨hx, hb, hml, hown, hts⟩ (x_putRomanDigit l dC dI cI cB cE o r n z_26 tl_27 F_28 z_30 105 118 120 H.size (by omega) (by omega) hF29 (by omega) (by omega) (by omega) (by omega) (by omega) (by omega) (by omega) (by omega)) (cwV 4 hts (kx_gV kq_15_xspan_20 kq_15_xspan_21 kq_15_xspan_22 kq_15_xspan_17 kq_15_xspan_23 rfl) rfl rfl rfl (by decide +kernel) ⟨Nat.le_of_ble_eq_true rfl, Nat.le_of_ble_eq_true rfl⟩) ⟨kx_blind, va_recv hK hPc (ci := 2) (q0 := 0) rfl rfl, kx_give (ws := []) (tys := []) hPc hDc hK hG hZ hS hFc⟩ rfl rfl hl.1 rfl (lv_room (Nat.le_of_ble_eq_true rfl)) dX2_putPage_96 ⟨show (((0 + 0) + 0) + 0) + 0 ≤ 0 from (by omega), show (((0 + 0) + 0) + 0) + 0 ≤ 0 from (by omega)⟩) hS (fun q _ h => hFc q h) hFc (fun u dn_32 dm_33 t H locs ht hvm hq_31 hB hk1 hS => ?_)
    obtain ⟨z_34, tl_35, F_36⟩ := u
    obtain ⟨hP1, hK1, hD1⟩ := hB
    rw [ht] at hP1
    obtain ⟨hP, hD⟩ := xj (wr := []) (w1 := (pU cB o r n z_34 tl_35 F_36)) (ws' := (pU cB o r n z_34 tl_35 F_36)) hP hD [0, 1] [] [0, 1] rfl rfl (by decide) (by decide) hk1 hFc hP1 hD1 rfl (by decide)
    refine W.eq (g2 := F0 m 99 ls []) rfl ?_
    try dsimp only at hq_31
    obtain ⟨hd37, hm37, hz37, ht37, hF37⟩ := hq_31
    subst hd37
    subst hm37
    refine lv_goto (tgt := 115) hx hb dX2_putPage_99 (by decide) ?_
    exact xk_vret (ov := (fun _ : Int × Int × (Int → Int) => none)) (post := (fun (u : Int × Int × (Int → Int)) (dn dm : Nat) => match u with | (z', tl', F') => dn = 0 ∧ dm = 0 ∧ (0 ≤ z' ∧ z' ≤ (n : Int)) ∧ (tl' = 0 ∨ tl' = 1) ∧ iB F')) (ws := (fun u : Int × Int × (Int → Int) => match u with | (z', tl', F') => (pU cB o r n z' tl' F'))) (tys := xT cI cB cE) (z_34, tl_35, F_36) hx hb hr hlocks rfl hP hD hK hS dX2_putPage_115 (fun dn dm hdn hdm => ⟨by omega, by omega, by omega, by omega, hF37⟩) (by omega) (by omega)
  by_cases hsw_38 : z_2 = 1
  · skip
    refine ki_is (show iz (z_2) = iz 1 by rw [hsw_38]) ?_
    refine lv_lookup (off := 93) (tgt := 102) hx hb dX2_putPage_9 (by decide) (by decide) (by decide) ?_
    refine lv_aload_n hx hb dX2_putPage_102 rfl (lv_at hl 1 rfl) ?_
    refine lv_iload_n hx hb dX2_putPage_103 rfl (lv_at hl 0 rfl) ?_
    have hPc := hP.sub (ws' := (pU cB o r n z tl F)) [0, 1] rfl
    have hDc := hD.sub (ws' := (pU cB o r n z tl F)) [0, 1] (by decide) rfl
    have hFc := va_free (wc := (pU cB o r n z tl F)) hD hS hA [0, 1] rfl
    refine xk_call (va_runV (As := [.int (iz z_1)]) (rest := []) ⟨hx, hb, hml, hown, hts⟩ (x_putNumber l dC dI cI cB cE o r n z tl F z_1 s.heap.size (by omega) (by omega) hF (by omega) (by omega)) (cwV 1 hts (kx_gV kq_15_xspan_24 kq_15_xspan_25 kq_15_xspan_26 kq_15_xspan_17 kq_15_xspan_27 rfl) rfl rfl rfl (by decide +kernel) ⟨Nat.le_of_ble_eq_true rfl, Nat.le_of_ble_eq_true rfl⟩) ⟨kx_blind, va_recv hK hPc (ci := 2) (q0 := 0) rfl rfl, kx_give (ws := []) (tys := []) hPc hDc hK hG hZ hS hFc⟩ rfl rfl hl.1 rfl (lv_room (Nat.le_of_ble_eq_true rfl)) dX2_putPage_104 ⟨show 0 + 0 ≤ 0 from (by omega), show 0 + 0 ≤ 0 from (by omega)⟩) hS (fun q _ h => hFc q h) hFc (fun u dn_40 dm_41 t H locs ht hvm hq_39 hB hk1 hS => ?_)
    obtain ⟨z_42, tl_43, F_44⟩ := u
    obtain ⟨hP1, hK1, hD1⟩ := hB
    rw [ht] at hP1
    obtain ⟨hP, hD⟩ := xj (wr := []) (w1 := (pU cB o r n z_42 tl_43 F_44)) (ws' := (pU cB o r n z_42 tl_43 F_44)) hP hD [0, 1] [] [0, 1] rfl rfl (by decide) (by decide) hk1 hFc hP1 hD1 rfl (by decide)
    refine W.eq (g2 := F0 m 107 ls []) rfl ?_
    try dsimp only at hq_39
    obtain ⟨hd45, hm45, hz45, ht45, hF45⟩ := hq_39
    subst hd45
    subst hm45
    refine lv_goto (tgt := 115) hx hb dX2_putPage_107 (by decide) ?_
    exact xk_vret (ov := (fun _ : Int × Int × (Int → Int) => none)) (post := (fun (u : Int × Int × (Int → Int)) (dn dm : Nat) => match u with | (z', tl', F') => dn = 0 ∧ dm = 0 ∧ (0 ≤ z' ∧ z' ≤ (n : Int)) ∧ (tl' = 0 ∨ tl' = 1) ∧ iB F')) (ws := (fun u : Int × Int × (Int → Int) => match u with | (z', tl', F') => (pU cB o r n z' tl' F'))) (tys := xT cI cB cE) (z_42, tl_43, F_44) hx hb hr hlocks rfl hP hD hK hS dX2_putPage_115 (fun dn dm hdn hdm => ⟨by omega, by omega, by omega, by omega, hF45⟩) (by omega) (by omega)
  refine lv_lookup (off := 101) (tgt := 110) hx hb dX2_putPage_9 (by decide) ((lv_osw (k := iz 0) (fun q9 => hsw_3 ((iz_eq (by omega) (by omega) (by omega) (by omega)).mp q9)) (by decide)).trans ((lv_osw (k := iz 1) (fun q9 => hsw_38 ((iz_eq (by omega) (by omega) (by omega) (by omega)).mp q9)) (by decide)).trans rfl)) (by decide) ?_
  refine lv_aload_n hx hb dX2_putPage_110 rfl (lv_at hl 1 rfl) ?_
  refine lv_iload_n hx hb dX2_putPage_111 rfl (lv_at hl 0 rfl) ?_
  have hPc := hP.sub (ws' := (pU cB o r n z tl F)) [0, 1] rfl
  have hDc := hD.sub (ws' := (pU cB o r n z tl F)) [0, 1] (by decide) rfl
  have hFc := va_free (wc := (pU cB o r n z tl F)) hD hS hA [0, 1] rfl
  refine xk_call (va_runV (As := [.int (iz z_1)]) (rest := []) ⟨hx, hb, hml, hown, hts⟩ (x_putLetters l dC dI cI cB cE o r n z tl F z_1 s.heap.size (by omega) (by omega) hF (by omega) (by omega)) (cwV 1 hts (kx_gV kq_15_xspan_28 kq_15_xspan_29 kq_15_xspan_30 kq_15_xspan_17 kq_15_xspan_31 rfl) rfl rfl rfl (by decide +kernel) ⟨Nat.le_of_ble_eq_true rfl, Nat.le_of_ble_eq_true rfl⟩) ⟨kx_blind, va_recv hK hPc (ci := 2) (q0 := 0) rfl rfl, kx_give (ws := []) (tys := []) hPc hDc hK hG hZ hS hFc⟩ rfl rfl hl.1 rfl (lv_room (Nat.le_of_ble_eq_true rfl)) dX2_putPage_112 ⟨show 0 + 0 ≤ 0 from (by omega), show 0 + 0 ≤ 0 from (by omega)⟩) hS (fun q _ h => hFc q h) hFc (fun u dn_47 dm_48 t H locs ht hvm hq_46 hB hk1 hS => ?_)
  obtain ⟨z_49, tl_50, F_51⟩ := u
  obtain ⟨hP1, hK1, hD1⟩ := hB
  rw [ht] at hP1
  obtain ⟨hP, hD⟩ := xj (wr := []) (w1 := (pU cB o r n z_49 tl_50 F_51)) (ws' := (pU cB o r n z_49 tl_50 F_51)) hP hD [0, 1] [] [0, 1] rfl rfl (by decide) (by decide) hk1 hFc hP1 hD1 rfl (by decide)
  refine W.eq (g2 := F0 m 115 ls []) rfl ?_
  try dsimp only at hq_46
  obtain ⟨hd52, hm52, hz52, ht52, hF52⟩ := hq_46
  subst hd52
  subst hm52
  exact xk_vret (ov := (fun _ : Int × Int × (Int → Int) => none)) (post := (fun (u : Int × Int × (Int → Int)) (dn dm : Nat) => match u with | (z', tl', F') => dn = 0 ∧ dm = 0 ∧ (0 ≤ z' ∧ z' ≤ (n : Int)) ∧ (tl' = 0 ∨ tl' = 1) ∧ iB F')) (ws := (fun u : Int × Int × (Int → Int) => match u with | (z', tl', F') => (pU cB o r n z' tl' F'))) (tys := xT cI cB cE) (z_49, tl_50, F_51) hx hb hr hlocks rfl hP hD hK hS dX2_putPage_115 (fun dn dm hdn hdm => ⟨by omega, by omega, by omega, by omega, hF52⟩) (by omega) (by omega)
set_option maxHeartbeats 4000000 in
set_option maxRecDepth 100000 in
theorem x_ssize (l : Launch) (dC : Nat → ClassId) (dI : Nat → Nat → Nat) (cI cB cE : ClassId) (L : Int) (o0 : Nat) (o1 : Nat) (o2 : Nat) (o3 : Nat) (r1 : Nat) (r2 : Nat) (r3 : Nat) (n1 : Nat) (n2 : Nat) (n3 : Nat) (z1 : Int) (z2 : Int) (z3 : Int) (F1 : Int → Int) (F2 : Int → Int) (F3 : Int → Int) (sz : Nat) : Met l yX3_size [.code yX3_size cX3_size 1 (some .int)] ({ frames := 1, cells := 0, slots := 0, locals := 20 }) (va_Pc [.ref o0] (pPre dC dI (sU cI L o0 o1 o2 o3 r1 r2 r3 n1 n2 n3 z1 z2 z3 F1 F2 F3) (xT cI cB cE) sz)) (pQ (fun z => some (.int (iz z))) (fun (q : Int) => q = z1)) 0 0 (fun _ => False) := by
  refine Met.ofW (cc := cX3_size) (maxL := 1) (ret := (some .int)) (by decide) rfl ?_
  intro p e s m args below meth c s₁ B hml hv
  obtain ⟨rfl, hsz, hP, hK, hG⟩ := hv
  have hx := B.exec
  have hb := B.bytes
  have hr := B.returns
  have hts := kx_hts (a := ([.ref o0] : List Value).toArray) hG
  have hown : s.vm.findClass RX3 = some m.cls := findClass_of_methodNamed B.named
  have hlocks := B.notSynchronized
  subst hsz
  have hS : va_S (fun _ => False) s.heap s.heap [] := va_S.rf
  have hl := lv_entry ([.ref o0]) (n := 1) (Nat.le_of_ble_eq_true rfl)
  rw [lg_entry_eq]
  generalize (lg_sl ([.ref o0]) ++ List.replicate (1 - (lg_sl ([.ref o0])).length) Slot.unset).toArray = ls at hl ⊢
  have hl : lv_has ls 1 [(0, .ref o0)] := hl
  refine lv_aload_n hx hb dX3_size_0 rfl (lv_at hl 0 rfl) ?_
  refine va_get (D := (dC, dI)) (ci := 3) (v := .ref o1) (C := RX3) (T := TX3) (N := 3) hx hb hts kt_X3 hown hK hP 0 rfl rfl 0 (by decide) (kx_word hG kq_15_xspan_32 rfl) (fun _ h9 => h9) rfl dX3_size_1 ?_
  have hPc := hP.sub (ws' := (iU cI L o1 r1 n1 z1 F1)) [1, 2] rfl
  refine xk_pure (va_runV (As := []) (rest := []) ⟨hx, hb, hml, hown, hts⟩ (x_size l dC dI cI cB cE L o1 r1 n1 z1 F1  s.heap.size ) (cwV 0 hts (kx_gV kq_15_xspan_33 kq_15_xspan_10 kq_15_xspan_11 kq_13_xints_6 kq_15_xspan_12 rfl) rfl rfl rfl (by decide +kernel) ⟨Nat.le_of_ble_eq_true rfl, Nat.le_of_ble_eq_true rfl⟩) ⟨pPre_blind, va_recv hK hPc (ci := 1) (q0 := 0) rfl rfl, pPre_give hPc hK hG⟩ rfl rfl hl.1 rfl (lv_room (Nat.le_of_ble_eq_true rfl)) dX3_size_4 ⟨Nat.le_of_ble_eq_true rfl, Nat.le_of_ble_eq_true rfl⟩) hS (fun z_2 locs hq_1 hS => ?_)
  refine W.eq (g2 := F0 m 7 ls [.int (iz z_2)]) rfl ?_
  try dsimp only at hq_1
  have hq_1 := hq_1.symm
  subst hq_1
  exact xp_iret (z := z1) hx hb hr rfl hlocks rfl hS.2.2 dX3_size_7 rfl
set_option maxHeartbeats 4000000 in
set_option maxRecDepth 100000 in
theorem x_sfull (l : Launch) (dC : Nat → ClassId) (dI : Nat → Nat → Nat) (cI cB cE : ClassId) (L : Int) (o0 : Nat) (o1 : Nat) (o2 : Nat) (o3 : Nat) (r1 : Nat) (r2 : Nat) (r3 : Nat) (n1 : Nat) (n2 : Nat) (n3 : Nat) (z1 : Int) (z2 : Int) (z3 : Int) (F1 : Int → Int) (F2 : Int → Int) (F3 : Int → Int) (sz : Nat) (hok1 : 0 ≤ z1 ∧ z1 ≤ (n1 : Int) ∧ (n1 : Int) ≤ L ∧ L ≤ 1600) (hF1 : iB F1) (hok2 : 0 ≤ z2 ∧ z2 ≤ (n2 : Int) ∧ (n2 : Int) ≤ L ∧ L ≤ 1600) (hF2 : iB F2) (hok3 : 0 ≤ z3 ∧ z3 ≤ (n3 : Int) ∧ (n3 : Int) ≤ L ∧ L ≤ 1600) (hF3 : iB F3) : Met l yX3_isFull [.code yX3_isFull cX3_isFull 1 (some .boolean)] ({ frames := 1, cells := 0, slots := 0, locals := 20 }) (va_Pc [.ref o0] (pPre dC dI (sU cI L o0 o1 o2 o3 r1 r2 r3 n1 n2 n3 z1 z2 z3 F1 F2 F3) (xT cI cB cE) sz)) (pQ (fun z => some (.int (iz z))) (fun (q : Int) => (q = 1 ∧ L ≤ z1) ∨ (q = 0 ∧ z1 < L))) 0 0 (fun _ => False) := by
  refine Met.ofW (cc := cX3_isFull) (maxL := 1) (ret := (some .boolean)) (by decide) rfl ?_
  intro p e s m args below meth c s₁ B hml hv
  obtain ⟨rfl, hsz, hP, hK, hG⟩ := hv
  have hx := B.exec
  have hb := B.bytes
  have hr := B.returns
  have hts := kx_hts (a := ([.ref o0] : List Value).toArray) hG
  have hown : s.vm.findClass RX3 = some m.cls := findClass_of_methodNamed B.named
  have hlocks := B.notSynchronized
  subst hsz
  have hS : va_S (fun _ => False) s.heap s.heap [] := va_S.rf
  have hl := lv_entry ([.ref o0]) (n := 1) (Nat.le_of_ble_eq_true rfl)
  rw [lg_entry_eq]
  generalize (lg_sl ([.ref o0]) ++ List.replicate (1 - (lg_sl ([.ref o0])).length) Slot.unset).toArray = ls at hl ⊢
  have hl : lv_has ls 1 [(0, .ref o0)] := hl
  refine lv_aload_n hx hb dX3_isFull_0 rfl (lv_at hl 0 rfl) ?_
  refine va_get (D := (dC, dI)) (ci := 3) (v := .ref o1) (C := RX3) (T := TX3) (N := 3) hx hb hts kt_X3 hown hK hP 0 rfl rfl 0 (by decide) (kx_word hG kq_15_xspan_32 rfl) (fun _ h9 => h9) rfl dX3_isFull_1 ?_
  have hPc := hP.sub (ws' := (iU cI L o1 r1 n1 z1 F1)) [1, 2] rfl
  refine xk_pure (va_runV (As := []) (rest := []) ⟨hx, hb, hml, hown, hts⟩ (x_isFull l dC dI cI cB cE L o1 r1 n1 z1 F1  s.heap.size hok1) (cwV 0 hts (kx_gV kq_15_xspan_34 kq_15_xspan_35 kq_15_xspan_36 kq_13_xints_6 kq_15_xspan_37 rfl) rfl rfl rfl (by decide +kernel) ⟨Nat.le_of_ble_eq_true rfl, Nat.le_of_ble_eq_true rfl⟩) ⟨pPre_blind, va_recv hK hPc (ci := 1) (q0 := 0) rfl rfl, pPre_give hPc hK hG⟩ rfl rfl hl.1 rfl (lv_room (Nat.le_of_ble_eq_true rfl)) dX3_isFull_4 ⟨Nat.le_of_ble_eq_true rfl, Nat.le_of_ble_eq_true rfl⟩) hS (fun z_2 locs hq_1 hS => ?_)
  refine W.eq (g2 := F0 m 7 ls [.int (iz z_2)]) rfl ?_
  try dsimp only at hq_1
  rcases hq_1 with ⟨rfl, hq_1⟩ | ⟨rfl, hq_1⟩
  · skip
    exact xp_iret (z := 1) hx hb hr (mz_bool (by omega)).1 hlocks rfl hS.2.2 dX3_isFull_7 (by omega)
  · skip
    exact xp_iret (z := 0) hx hb hr (mz_bool (by omega)).1 hlocks rfl hS.2.2 dX3_isFull_7 (by omega)
set_option maxHeartbeats 4000000 in
set_option maxRecDepth 100000 in
theorem x_sfrom (l : Launch) (dC : Nat → ClassId) (dI : Nat → Nat → Nat) (cI cB cE : ClassId) (L : Int) (o0 : Nat) (o1 : Nat) (o2 : Nat) (o3 : Nat) (r1 : Nat) (r2 : Nat) (r3 : Nat) (n1 : Nat) (n2 : Nat) (n3 : Nat) (z1 : Int) (z2 : Int) (z3 : Int) (F1 : Int → Int) (F2 : Int → Int) (F3 : Int → Int) (p0 : Int) (sz : Nat) (hok1 : 0 ≤ z1 ∧ z1 ≤ (n1 : Int) ∧ (n1 : Int) ≤ L ∧ L ≤ 1600) (hF1 : iB F1) (hok2 : 0 ≤ z2 ∧ z2 ≤ (n2 : Int) ∧ (n2 : Int) ≤ L ∧ L ≤ 1600) (hF2 : iB F2) (hok3 : 0 ≤ z3 ∧ z3 ≤ (n3 : Int) ∧ (n3 : Int) ≤ L ∧ L ≤ 1600) (hF3 : iB F3) (hp01 : -2147483648 ≤ p0) (hp02 : p0 < 2147483648) : Met l yX3_from [.code yX3_from cX3_from 2 (some .int)] ({ frames := 1, cells := 0, slots := 0, locals := 21 }) (va_Pc [.ref o0, .int (iz p0)] (pPre dC dI (sU cI L o0 o1 o2 o3 r1 r2 r3 n1 n2 n3 z1 z2 z3 F1 F2 F3) (xT cI cB cE) sz)) (pQ (fun z => some (.int (iz z))) (fun (q : Int) => ((0 ≤ p0 ∧ p0 < z1 ∧ q = F1 p0) ∨ (¬ (0 ≤ p0 ∧ p0 < z1) ∧ q = 0)) ∧ -2147483648 ≤ q ∧ q < 2147483648)) 0 0 (fun _ => False) := by
  refine Met.ofW (cc := cX3_from) (maxL := 2) (ret := (some .int)) (by decide) rfl ?_
  intro p e s m args below meth c s₁ B hml hv
  obtain ⟨rfl, hsz, hP, hK, hG⟩ := hv
  have hx := B.exec
  have hb := B.bytes
  have hr := B.returns
  have hts := kx_hts (a := ([.ref o0, .int (iz p0)] : List Value).toArray) hG
  have hown : s.vm.findClass RX3 = some m.cls := findClass_of_methodNamed B.named
  have hlocks := B.notSynchronized
  subst hsz
  have hS : va_S (fun _ => False) s.heap s.heap [] := va_S.rf
  have hl := lv_entry ([.ref o0, .int (iz p0)]) (n := 2) (Nat.le_of_ble_eq_true rfl)
  rw [lg_entry_eq]
  generalize (lg_sl ([.ref o0, .int (iz p0)]) ++ List.replicate (2 - (lg_sl ([.ref o0, .int (iz p0)])).length) Slot.unset).toArray = ls at hl ⊢
  have hl : lv_has ls 2 [(0, .ref o0), (1, .int (iz p0))] := hl
  refine lv_aload_n hx hb dX3_from_0 rfl (lv_at hl 0 rfl) ?_
  refine va_get (D := (dC, dI)) (ci := 3) (v := .ref o1) (C := RX3) (T := TX3) (N := 3) hx hb hts kt_X3 hown hK hP 0 rfl rfl 0 (by decide) (kx_word hG kq_15_xspan_32 rfl) (fun _ h9 => h9) rfl dX3_from_1 ?_
  refine lv_iload_n hx hb dX3_from_4 rfl (lv_at hl 1 rfl) ?_
  have hPc := hP.sub (ws' := (iU cI L o1 r1 n1 z1 F1)) [1, 2] rfl
  refine xk_pure (va_runV (As := [.int (iz p0)]) (rest := []) ⟨hx, hb, hml, hown, hts⟩ (x_get l dC dI cI cB cE L o1 r1 n1 z1 F1 p0 s.heap.size hok1 hF1 (by omega) (by omega)) (cwV 1 hts (kx_gV kq_15_xspan_38 kq_13_xints_4 kq_13_xints_5 kq_13_xints_6 kq_13_xints_7 rfl) rfl rfl rfl (by decide +kernel) ⟨Nat.le_of_ble_eq_true rfl, Nat.le_of_ble_eq_true rfl⟩) ⟨pPre_blind, va_recv hK hPc (ci := 1) (q0 := 0) rfl rfl, pPre_give hPc hK hG⟩ rfl rfl hl.1 rfl (lv_room (Nat.le_of_ble_eq_true rfl)) dX3_from_5 ⟨Nat.le_of_ble_eq_true rfl, Nat.le_of_ble_eq_true rfl⟩) hS (fun z_2 locs hq_1 hS => ?_)
  refine W.eq (g2 := F0 m 8 ls [.int (iz z_2)]) rfl ?_
  try dsimp only at hq_1
  exact xp_iret (z := z_2) hx hb hr rfl hlocks rfl hS.2.2 dX3_from_8 hq_1
set_option maxHeartbeats 4000000 in
set_option maxRecDepth 100000 in
theorem x_sto (l : Launch) (dC : Nat → ClassId) (dI : Nat → Nat → Nat) (cI cB cE : ClassId) (L : Int) (o0 : Nat) (o1 : Nat) (o2 : Nat) (o3 : Nat) (r1 : Nat) (r2 : Nat) (r3 : Nat) (n1 : Nat) (n2 : Nat) (n3 : Nat) (z1 : Int) (z2 : Int) (z3 : Int) (F1 : Int → Int) (F2 : Int → Int) (F3 : Int → Int) (p0 : Int) (sz : Nat) (hok1 : 0 ≤ z1 ∧ z1 ≤ (n1 : Int) ∧ (n1 : Int) ≤ L ∧ L ≤ 1600) (hF1 : iB F1) (hok2 : 0 ≤ z2 ∧ z2 ≤ (n2 : Int) ∧ (n2 : Int) ≤ L ∧ L ≤ 1600) (hF2 : iB F2) (hok3 : 0 ≤ z3 ∧ z3 ≤ (n3 : Int) ∧ (n3 : Int) ≤ L ∧ L ≤ 1600) (hF3 : iB F3) (hp01 : -2147483648 ≤ p0) (hp02 : p0 < 2147483648) : Met l yX3_to [.code yX3_to cX3_to 2 (some .int)] ({ frames := 1, cells := 0, slots := 0, locals := 21 }) (va_Pc [.ref o0, .int (iz p0)] (pPre dC dI (sU cI L o0 o1 o2 o3 r1 r2 r3 n1 n2 n3 z1 z2 z3 F1 F2 F3) (xT cI cB cE) sz)) (pQ (fun z => some (.int (iz z))) (fun (q : Int) => ((0 ≤ p0 ∧ p0 < z2 ∧ q = F2 p0) ∨ (¬ (0 ≤ p0 ∧ p0 < z2) ∧ q = 0)) ∧ -2147483648 ≤ q ∧ q < 2147483648)) 0 0 (fun _ => False) := by
  refine Met.ofW (cc := cX3_to) (maxL := 2) (ret := (some .int)) (by decide) rfl ?_
  intro p e s m args below meth c s₁ B hml hv
  obtain ⟨rfl, hsz, hP, hK, hG⟩ := hv
  have hx := B.exec
  have hb := B.bytes
  have hr := B.returns
  have hts := kx_hts (a := ([.ref o0, .int (iz p0)] : List Value).toArray) hG
  have hown : s.vm.findClass RX3 = some m.cls := findClass_of_methodNamed B.named
  have hlocks := B.notSynchronized
  subst hsz
  have hS : va_S (fun _ => False) s.heap s.heap [] := va_S.rf
  have hl := lv_entry ([.ref o0, .int (iz p0)]) (n := 2) (Nat.le_of_ble_eq_true rfl)
  rw [lg_entry_eq]
  generalize (lg_sl ([.ref o0, .int (iz p0)]) ++ List.replicate (2 - (lg_sl ([.ref o0, .int (iz p0)])).length) Slot.unset).toArray = ls at hl ⊢
  have hl : lv_has ls 2 [(0, .ref o0), (1, .int (iz p0))] := hl
  refine lv_aload_n hx hb dX3_to_0 rfl (lv_at hl 0 rfl) ?_
  refine va_get (D := (dC, dI)) (ci := 3) (v := .ref o2) (C := RX3) (T := TX3) (N := 3) hx hb hts kt_X3 hown hK hP 0 rfl rfl 1 (by decide) (kx_word hG kq_15_xspan_39 rfl) (fun _ h9 => h9) rfl dX3_to_1 ?_
  refine lv_iload_n hx hb dX3_to_4 rfl (lv_at hl 1 rfl) ?_
  have hPc := hP.sub (ws' := (iU cI L o2 r2 n2 z2 F2)) [3, 4] rfl
  refine xk_pure (va_runV (As := [.int (iz p0)]) (rest := []) ⟨hx, hb, hml, hown, hts⟩ (x_get l dC dI cI cB cE L o2 r2 n2 z2 F2 p0 s.heap.size hok2 hF2 (by omega) (by omega)) (cwV 1 hts (kx_gV kq_15_xspan_38 kq_13_xints_4 kq_13_xints_5 kq_13_xints_6 kq_13_xints_7 rfl) rfl rfl rfl (by decide +kernel) ⟨Nat.le_of_ble_eq_true rfl, Nat.le_of_ble_eq_true rfl⟩) ⟨pPre_blind, va_recv hK hPc (ci := 1) (q0 := 0) rfl rfl, pPre_give hPc hK hG⟩ rfl rfl hl.1 rfl (lv_room (Nat.le_of_ble_eq_true rfl)) dX3_to_5 ⟨Nat.le_of_ble_eq_true rfl, Nat.le_of_ble_eq_true rfl⟩) hS (fun z_2 locs hq_1 hS => ?_)
  refine W.eq (g2 := F0 m 8 ls [.int (iz z_2)]) rfl ?_
  try dsimp only at hq_1
  exact xp_iret (z := z_2) hx hb hr rfl hlocks rfl hS.2.2 dX3_to_8 hq_1
set_option maxHeartbeats 4000000 in
set_option maxRecDepth 100000 in
theorem x_stold (l : Launch) (dC : Nat → ClassId) (dI : Nat → Nat → Nat) (cI cB cE : ClassId) (L : Int) (o0 : Nat) (o1 : Nat) (o2 : Nat) (o3 : Nat) (r1 : Nat) (r2 : Nat) (r3 : Nat) (n1 : Nat) (n2 : Nat) (n3 : Nat) (z1 : Int) (z2 : Int) (z3 : Int) (F1 : Int → Int) (F2 : Int → Int) (F3 : Int → Int) (p0 : Int) (sz : Nat) (hok1 : 0 ≤ z1 ∧ z1 ≤ (n1 : Int) ∧ (n1 : Int) ≤ L ∧ L ≤ 1600) (hF1 : iB F1) (hok2 : 0 ≤ z2 ∧ z2 ≤ (n2 : Int) ∧ (n2 : Int) ≤ L ∧ L ≤ 1600) (hF2 : iB F2) (hok3 : 0 ≤ z3 ∧ z3 ≤ (n3 : Int) ∧ (n3 : Int) ≤ L ∧ L ≤ 1600) (hF3 : iB F3) (hp01 : -2147483648 ≤ p0) (hp02 : p0 < 2147483648) : Met l yX3_isTold [.code yX3_isTold cX3_isTold 2 (some .boolean)] ({ frames := 1, cells := 0, slots := 0, locals := 21 }) (va_Pc [.ref o0, .int (iz p0)] (pPre dC dI (sU cI L o0 o1 o2 o3 r1 r2 r3 n1 n2 n3 z1 z2 z3 F1 F2 F3) (xT cI cB cE) sz)) (pQ (fun z => some (.int (iz z))) (fun (q : Int) => q = 0 ∨ q = 1)) 0 0 (fun _ => False) := by
  refine Met.ofW (cc := cX3_isTold) (maxL := 2) (ret := (some .boolean)) (by decide) rfl ?_
  intro p e s m args below meth c s₁ B hml hv
  obtain ⟨rfl, hsz, hP, hK, hG⟩ := hv
  have hx := B.exec
  have hb := B.bytes
  have hr := B.returns
  have hts := kx_hts (a := ([.ref o0, .int (iz p0)] : List Value).toArray) hG
  have hown : s.vm.findClass RX3 = some m.cls := findClass_of_methodNamed B.named
  have hlocks := B.notSynchronized
  subst hsz
  have hS : va_S (fun _ => False) s.heap s.heap [] := va_S.rf
  have hl := lv_entry ([.ref o0, .int (iz p0)]) (n := 2) (Nat.le_of_ble_eq_true rfl)
  rw [lg_entry_eq]
  generalize (lg_sl ([.ref o0, .int (iz p0)]) ++ List.replicate (2 - (lg_sl ([.ref o0, .int (iz p0)])).length) Slot.unset).toArray = ls at hl ⊢
  have hl : lv_has ls 2 [(0, .ref o0), (1, .int (iz p0))] := hl
  refine lv_aload_n hx hb dX3_isTold_0 rfl (lv_at hl 0 rfl) ?_
  refine va_get (D := (dC, dI)) (ci := 3) (v := .ref o3) (C := RX3) (T := TX3) (N := 3) hx hb hts kt_X3 hown hK hP 0 rfl rfl 2 (by decide) (kx_word hG kq_15_xspan_40 rfl) (fun _ h9 => h9) rfl dX3_isTold_1 ?_
  refine lv_iload_n hx hb dX3_isTold_4 rfl (lv_at hl 1 rfl) ?_
  have hPc := hP.sub (ws' := (iU cI L o3 r3 n3 z3 F3)) [5, 6] rfl
  refine xk_pure (va_runV (As := [.int (iz p0)]) (rest := []) ⟨hx, hb, hml, hown, hts⟩ (x_get l dC dI cI cB cE L o3 r3 n3 z3 F3 p0 s.heap.size hok3 hF3 (by omega) (by omega)) (cwV 1 hts (kx_gV kq_15_xspan_38 kq_13_xints_4 kq_13_xints_5 kq_13_xints_6 kq_13_xints_7 rfl) rfl rfl rfl (by decide +kernel) ⟨Nat.le_of_ble_eq_true rfl, Nat.le_of_ble_eq_true rfl⟩) ⟨pPre_blind, va_recv hK hPc (ci := 1) (q0 := 0) rfl rfl, pPre_give hPc hK hG⟩ rfl rfl hl.1 rfl (lv_room (Nat.le_of_ble_eq_true rfl)) dX3_isTold_5 ⟨Nat.le_of_ble_eq_true rfl, Nat.le_of_ble_eq_true rfl⟩) hS (fun z_2 locs hq_1 hS => ?_)
  refine W.eq (g2 := F0 m 8 ls [.int (iz z_2)]) rfl ?_
  try dsimp only at hq_1
  refine lv_iconst (v := iz 1) hx hb dX3_isTold_8 (by decide) ?_
  refine ki_icmp_ne (tgt := 16) hx hb dX3_isTold_9 (by decide) (by omega) (by omega) (by omega) (by omega) (fun c_3 => ?_) (fun c_3 => ?_)
  · skip
    refine lv_iconst (v := iz 0) hx hb dX3_isTold_16 (by decide) ?_
    exact xp_iret (z := 0) hx hb hr (mz_bool (by omega)).1 hlocks rfl hS.2.2 dX3_isTold_17 (by omega)
  · skip
    refine lv_iconst (v := iz 1) hx hb dX3_isTold_12 (by decide) ?_
    refine lv_goto (tgt := 17) hx hb dX3_isTold_13 (by decide) ?_
    exact xp_iret (z := 1) hx hb hr (mz_bool (by omega)).1 hlocks rfl hS.2.2 dX3_isTold_17 (by omega)
set_option maxHeartbeats 4000000 in
set_option maxRecDepth 100000 in
theorem x_sclear (l : Launch) (dC : Nat → ClassId) (dI : Nat → Nat → Nat) (cI cB cE : ClassId) (L : Int) (o0 : Nat) (o1 : Nat) (o2 : Nat) (o3 : Nat) (r1 : Nat) (r2 : Nat) (r3 : Nat) (n1 : Nat) (n2 : Nat) (n3 : Nat) (z1 : Int) (z2 : Int) (z3 : Int) (F1 : Int → Int) (F2 : Int → Int) (F3 : Int → Int) (sz : Nat) : Met l yX3_clear [.code yX3_clear cX3_clear 1 none] ({ frames := 1, cells := 0, slots := 0, locals := 20 }) (va_Pc [.ref o0] (kx_Pre dC dI (sU cI L o0 o1 o2 o3 r1 r2 r3 n1 n2 n3 z1 z2 z3 F1 F2 F3) (xT cI cB cE) sz)) (xQ (fun _ : Int × Int × Int => none) (fun (u : Int × Int × Int) (dn dm : Nat) => match u with | (z1', z2', z3') => dn = 0 ∧ dm = 0 ∧ 0 = z1' ∧ 0 = z2' ∧ 0 = z3') (fun u t => kx_At dC dI (va_A (sU cI L o0 o1 o2 o3 r1 r2 r3 n1 n2 n3 z1 z2 z3 F1 F2 F3) sz) ((fun u : Int × Int × Int => match u with | (z1', z2', z3') => (sU cI L o0 o1 o2 o3 r1 r2 r3 n1 n2 n3 z1' z2' z3' F1 F2 F3)) u) (xT cI cB cE) t) (va_A (sU cI L o0 o1 o2 o3 r1 r2 r3 n1 n2 n3 z1 z2 z3 F1 F2 F3) sz)) 0 0 (va_A (sU cI L o0 o1 o2 o3 r1 r2 r3 n1 n2 n3 z1 z2 z3 F1 F2 F3) sz) := by
  refine Met.ofW (cc := cX3_clear) (maxL := 1) (ret := none) (by decide) rfl ?_
  intro p e s m args below meth c s₁ B hml hv
  obtain ⟨rfl, hsz, hP, hK, hD0, hG, hZ⟩ := hv
  have hx := B.exec
  have hb := B.bytes
  have hr := B.returns
  have hts := kx_hts (a := ([.ref o0] : List Value).toArray) hG
  have hown : s.vm.findClass RX3 = some m.cls := findClass_of_methodNamed B.named
  have hlocks := B.notSynchronized
  subst hsz
  have hD := hD0.self (sz := s.heap.size)
  generalize hAe : va_A (sU cI L o0 o1 o2 o3 r1 r2 r3 n1 n2 n3 z1 z2 z3 F1 F2 F3) s.heap.size = A at hD hZ ⊢
  have hA : ∀ q : Nat, s.heap.size ≤ q → A q := fun q h => by rw [← hAe]; exact Or.inr h
  have hS : va_S A s.heap s.heap [] := va_S.rf
  have hl := lv_entry ([.ref o0]) (n := 1) (Nat.le_of_ble_eq_true rfl)
  rw [lg_entry_eq]
  generalize (lg_sl ([.ref o0]) ++ List.replicate (1 - (lg_sl ([.ref o0])).length) Slot.unset).toArray = ls at hl ⊢
  have hl : lv_has ls 1 [(0, .ref o0)] := hl
  refine lv_aload_n hx hb dX3_clear_0 rfl (lv_at hl 0 rfl) ?_
  refine va_get (D := (dC, dI)) (ci := 3) (v := .ref o1) (C := RX3) (T := TX3) (N := 3) hx hb hts kt_X3 hown hK hP 0 rfl rfl 0 (by decide) (kx_word hG kq_15_xspan_32 rfl) (fun _ h9 => h9) rfl dX3_clear_1 ?_
  have hPc := hP.sub (ws' := (iU cI L o1 r1 n1 z1 F1)) [1, 2] rfl
  have hDc := hD.sub (ws' := (iU cI L o1 r1 n1 z1 F1)) [1, 2] (by decide) rfl
  have hFc := va_free (wc := (iU cI L o1 r1 n1 z1 F1)) hD hS hA [1, 2] rfl
  refine xk_call (va_runV (As := []) (rest := []) ⟨hx, hb, hml, hown, hts⟩ (x_clear l dC dI cI cB cE L o1 r1 n1 z1 F1  s.heap.size ) (cwV 0 hts (kx_gV kq_15_xspan_41 kq_15_xspan_42 kq_15_xspan_43 kq_13_xints_6 kq_15_xspan_44 rfl) rfl rfl rfl (by decide +kernel) ⟨Nat.le_of_ble_eq_true rfl, Nat.le_of_ble_eq_true rfl⟩) ⟨kx_blind, va_recv hK hPc (ci := 1) (q0 := 0) rfl rfl, kx_give (ws := []) (tys := []) hPc hDc hK hG hZ hS hFc⟩ rfl rfl hl.1 rfl (lv_room (Nat.le_of_ble_eq_true rfl)) dX3_clear_4 ⟨show 0 + 0 ≤ 0 from (by omega), show 0 + 0 ≤ 0 from (by omega)⟩) hS (fun q _ h => hFc q h) hFc (fun u dn_2 dm_3 t H locs ht hvm hq_1 hB hk1 hS => ?_)
  obtain ⟨z_4, rfl⟩ : ∃ z, z = u := ⟨_, rfl⟩
  obtain ⟨hP1, hK1, hD1⟩ := hB
  rw [ht] at hP1
  obtain ⟨hP, hD⟩ := xj (wr := [(o0, .inr (3, [.ref o1, .ref o2, .ref o3])), (o2, .inr (1, [.int (iz L), .ref r2, .int (iz z2)])), (r2, .inl (cI, n2, .inl (iA F2))), (o3, .inr (1, [.int (iz L), .ref r3, .int (iz z3)])), (r3, .inl (cI, n3, .inl (iA F3)))]) (w1 := (iU cI L o1 r1 n1 z_4 F1)) (ws' := (sU cI L o0 o1 o2 o3 r1 r2 r3 n1 n2 n3 z_4 z2 z3 F1 F2 F3)) hP hD [1, 2] [0, 3, 4, 5, 6] [0, 5, 6, 1, 2, 3, 4] rfl rfl (by decide) (by decide) hk1 hFc hP1 hD1 rfl (by decide)
  refine W.eq (g2 := F0 m 7 ls []) rfl ?_
  try dsimp only at hq_1
  refine lv_aload_n hx hb dX3_clear_7 rfl (lv_at hl 0 rfl) ?_
  refine va_get (D := (dC, dI)) (ci := 3) (v := .ref o2) (C := RX3) (T := TX3) (N := 3) hx hb hts kt_X3 hown hK hP 0 rfl rfl 1 (by decide) (kx_word hG kq_15_xspan_39 rfl) (fun _ h9 => h9) rfl dX3_clear_8 ?_
  have hPc := hP.sub (ws' := (iU cI L o2 r2 n2 z2 F2)) [3, 4] rfl
  have hDc := hD.sub (ws' := (iU cI L o2 r2 n2 z2 F2)) [3, 4] (by decide) rfl
  have hFc := va_free (wc := (iU cI L o2 r2 n2 z2 F2)) hD hS hA [3, 4] rfl
  refine xk_call (va_runV (As := []) (rest := []) ⟨hx, hb, hml, hown, hts⟩ (x_clear l dC dI cI cB cE L o2 r2 n2 z2 F2  H.size ) (cwV 0 hts (kx_gV kq_15_xspan_41 kq_15_xspan_42 kq_15_xspan_43 kq_13_xints_6 kq_15_xspan_44 rfl) rfl rfl rfl (by decide +kernel) ⟨Nat.le_of_ble_eq_true rfl, Nat.le_of_ble_eq_true rfl⟩) ⟨kx_blind, va_recv hK hPc (ci := 1) (q0 := 0) rfl rfl, kx_give (ws := []) (tys := []) hPc hDc hK hG hZ hS hFc⟩ rfl rfl hl.1 rfl (lv_room (Nat.le_of_ble_eq_true rfl)) dX3_clear_11 ⟨show (0 + dn_2) + 0 ≤ 0 from (by omega), show (0 + dm_3) + 0 ≤ 0 from (by omega)⟩) hS (fun q _ h => hFc q h) hFc (fun u dn_6 dm_7 t H locs ht hvm hq_5 hB hk1 hS => ?_)
  obtain ⟨z_8, rfl⟩ : ∃ z, z = u := ⟨_, rfl⟩
  obtain ⟨hP1, hK1, hD1⟩ := hB
  rw [ht] at hP1
  obtain ⟨hP, hD⟩ := xj (wr := [(o0, .inr (3, [.ref o1, .ref o2, .ref o3])), (o1, .inr (1, [.int (iz L), .ref r1, .int (iz z_4)])), (r1, .inl (cI, n1, .inl (iA F1))), (o3, .inr (1, [.int (iz L), .ref r3, .int (iz z3)])), (r3, .inl (cI, n3, .inl (iA F3)))]) (w1 := (iU cI L o2 r2 n2 z_8 F2)) (ws' := (sU cI L o0 o1 o2 o3 r1 r2 r3 n1 n2 n3 z_4 z_8 z3 F1 F2 F3)) hP hD [3, 4] [0, 1, 2, 5, 6] [0, 1, 2, 5, 6, 3, 4] rfl rfl (by decide) (by decide) hk1 hFc hP1 hD1 rfl (by decide)
  refine W.eq (g2 := F0 m 14 ls []) rfl ?_
  try dsimp only at hq_5
  refine lv_aload_n hx hb dX3_clear_14 rfl (lv_at hl 0 rfl) ?_
  refine va_get (D := (dC, dI)) (ci := 3) (v := .ref o3) (C := RX3) (T := TX3) (N := 3) hx hb hts kt_X3 hown hK hP 0 rfl rfl 2 (by decide) (kx_word hG kq_15_xspan_40 rfl) (fun _ h9 => h9) rfl dX3_clear_15 ?_
  have hPc := hP.sub (ws' := (iU cI L o3 r3 n3 z3 F3)) [5, 6] rfl
  have hDc := hD.sub (ws' := (iU cI L o3 r3 n3 z3 F3)) [5, 6] (by decide) rfl
  have hFc := va_free (wc := (iU cI L o3 r3 n3 z3 F3)) hD hS hA [5, 6] rfl
  refine xk_call (va_runV (As := []) (rest := []) ⟨hx, hb, hml, hown, hts⟩ (x_clear l dC dI cI cB cE L o3 r3 n3 z3 F3  H.size ) (cwV 0 hts (kx_gV kq_15_xspan_41 kq_15_xspan_42 kq_15_xspan_43 kq_13_xints_6 kq_15_xspan_44 rfl) rfl rfl rfl (by decide +kernel) ⟨Nat.le_of_ble_eq_true rfl, Nat.le_of_ble_eq_true rfl⟩) ⟨kx_blind, va_recv hK hPc (ci := 1) (q0 := 0) rfl rfl, kx_give (ws := []) (tys := []) hPc hDc hK hG hZ hS hFc⟩ rfl rfl hl.1 rfl (lv_room (Nat.le_of_ble_eq_true rfl)) dX3_clear_18 ⟨show ((0 + dn_2) + dn_6) + 0 ≤ 0 from (by omega), show ((0 + dm_3) + dm_7) + 0 ≤ 0 from (by omega)⟩) hS (fun q _ h => hFc q h) hFc (fun u dn_10 dm_11 t H locs ht hvm hq_9 hB hk1 hS => ?_)
  obtain ⟨z_12, rfl⟩ : ∃ z, z = u := ⟨_, rfl⟩
  obtain ⟨hP1, hK1, hD1⟩ := hB
  rw [ht] at hP1
  obtain ⟨hP, hD⟩ := xj (wr := [(o0, .inr (3, [.ref o1, .ref o2, .ref o3])), (o1, .inr (1, [.int (iz L), .ref r1, .int (iz z_4)])), (r1, .inl (cI, n1, .inl (iA F1))), (o2, .inr (1, [.int (iz L), .ref r2, .int (iz z_8)])), (r2, .inl (cI, n2, .inl (iA F2)))]) (w1 := (iU cI L o3 r3 n3 z_12 F3)) (ws' := (sU cI L o0 o1 o2 o3 r1 r2 r3 n1 n2 n3 z_4 z_8 z_12 F1 F2 F3)) hP hD [5, 6] [0, 1, 2, 3, 4] [0, 1, 2, 3, 4, 5, 6] rfl rfl (by decide) (by decide) hk1 hFc hP1 hD1 rfl (by decide)
  refine W.eq (g2 := F0 m 21 ls []) rfl ?_
  try dsimp only at hq_9
  exact xk_vret (ov := (fun _ : Int × Int × Int => none)) (post := (fun (u : Int × Int × Int) (dn dm : Nat) => match u with | (z1', z2', z3') => dn = 0 ∧ dm = 0 ∧ 0 = z1' ∧ 0 = z2' ∧ 0 = z3')) (ws := (fun u : Int × Int × Int => match u with | (z1', z2', z3') => (sU cI L o0 o1 o2 o3 r1 r2 r3 n1 n2 n3 z1' z2' z3' F1 F2 F3))) (tys := xT cI cB cE) (z_4, z_8, z_12) hx hb hr hlocks rfl hP hD hK hS dX3_clear_21 (fun dn dm hdn hdm => ⟨by omega, by omega, by omega, by omega, by omega⟩) (by omega) (by omega)
set_option maxHeartbeats 4000000 in
set_option maxRecDepth 100000 in
theorem x_sadd (l : Launch) (dC : Nat → ClassId) (dI : Nat → Nat → Nat) (cI cB cE : ClassId) (L : Int) (o0 : Nat) (o1 : Nat) (o2 : Nat) (o3 : Nat) (r1 : Nat) (r2 : Nat) (r3 : Nat) (n1 : Nat) (n2 : Nat) (n3 : Nat) (z1 : Int) (z2 : Int) (z3 : Int) (F1 : Int → Int) (F2 : Int → Int) (F3 : Int → Int) (p0 : Int) (p1 : Int) (p2 : Int) (sz : Nat) (hok1 : 0 ≤ z1 ∧ z1 ≤ (n1 : Int) ∧ (n1 : Int) ≤ L ∧ L ≤ 1600) (hF1 : iB F1) (hok2 : 0 ≤ z2 ∧ z2 ≤ (n2 : Int) ∧ (n2 : Int) ≤ L ∧ L ≤ 1600) (hF2 : iB F2) (hok3 : 0 ≤ z3 ∧ z3 ≤ (n3 : Int) ∧ (n3 : Int) ≤ L ∧ L ≤ 1600) (hF3 : iB F3) (hp2 : p2 = 0 ∨ p2 = 1) (hp01 : -2147483648 ≤ p0) (hp02 : p0 < 2147483648) (hp11 : -2147483648 ≤ p1) (hp12 : p1 < 2147483648) : Met l yX3_add [.code yX3_add cX3_add 4 none] ({ frames := 3, cells := 3, slots := 4800, locals := 103 }) (va_Pc [.ref o0, .int (iz p0), .int (iz p1), .int (iz p2)] (kx_Pre dC dI (sU cI L o0 o1 o2 o3 r1 r2 r3 n1 n2 n3 z1 z2 z3 F1 F2 F3) (xT cI cB cE) sz)) (xQ (fun _ : Nat × Nat × Int × (Int → Int) × Nat × Nat × Int × (Int → Int) × Nat × Nat × Int × (Int → Int) => none) (fun (u : Nat × Nat × Int × (Int → Int) × Nat × Nat × Int × (Int → Int) × Nat × Nat × Int × (Int → Int)) (dn dm : Nat) => match u with | (r1', n1', z1', F1', r2', n2', z2', F2', r3', n3', z3', F3') => (0 ≤ z1' ∧ z1' ≤ (n1' : Int) ∧ (n1' : Int) ≤ L) ∧ iB F1' ∧ (0 ≤ z2' ∧ z2' ≤ (n2' : Int) ∧ (n2' : Int) ≤ L) ∧ iB F2' ∧ (0 ≤ z3' ∧ z3' ≤ (n3' : Int) ∧ (n3' : Int) ≤ L) ∧ iB F3' ∧ (dn + psg L n1' + psg L n2' + psg L n3' ≤ psg L n1 + psg L n2 + psg L n3 ∧ dm + psj L n1' + psj L n2' + psj L n3' ≤ psj L n1 + psj L n2 + psj L n3) ∧ iAdd L z1 F1 z1' F1' p0 ∧ iAdd L z2 F2 z2' F2' p1 ∧ iAdd L z3 F3 z3' F3' p2) (fun u t => kx_At dC dI (va_A (sU cI L o0 o1 o2 o3 r1 r2 r3 n1 n2 n3 z1 z2 z3 F1 F2 F3) sz) ((fun u : Nat × Nat × Int × (Int → Int) × Nat × Nat × Int × (Int → Int) × Nat × Nat × Int × (Int → Int) => match u with | (r1', n1', z1', F1', r2', n2', z2', F2', r3', n3', z3', F3') => (sU cI L o0 o1 o2 o3 r1' r2' r3' n1' n2' n3' z1' z2' z3' F1' F2' F3')) u) (xT cI cB cE) t) (va_A (sU cI L o0 o1 o2 o3 r1 r2 r3 n1 n2 n3 z1 z2 z3 F1 F2 F3) sz)) 3 4800 (va_A (sU cI L o0 o1 o2 o3 r1 r2 r3 n1 n2 n3 z1 z2 z3 F1 F2 F3) sz) := by
  refine Met.ofW (cc := cX3_add) (maxL := 4) (ret := none) (by decide) rfl ?_
  intro p e s m args below meth c s₁ B hml hv
  obtain ⟨rfl, hsz, hP, hK, hD0, hG, hZ⟩ := hv
  have hx := B.exec
  have hb := B.bytes
  have hr := B.returns
  have hts := kx_hts (a := ([.ref o0, .int (iz p0), .int (iz p1), .int (iz p2)] : List Value).toArray) hG
  have hown : s.vm.findClass RX3 = some m.cls := findClass_of_methodNamed B.named
  have hlocks := B.notSynchronized
  subst hsz
  have hD := hD0.self (sz := s.heap.size)
  generalize hAe : va_A (sU cI L o0 o1 o2 o3 r1 r2 r3 n1 n2 n3 z1 z2 z3 F1 F2 F3) s.heap.size = A at hD hZ ⊢
  have hA : ∀ q : Nat, s.heap.size ≤ q → A q := fun q h => by rw [← hAe]; exact Or.inr h
  have hS : va_S A s.heap s.heap [] := va_S.rf
  have hl := lv_entry ([.ref o0, .int (iz p0), .int (iz p1), .int (iz p2)]) (n := 4) (Nat.le_of_ble_eq_true rfl)
  rw [lg_entry_eq]
  generalize (lg_sl ([.ref o0, .int (iz p0), .int (iz p1), .int (iz p2)]) ++ List.replicate (4 - (lg_sl ([.ref o0, .int (iz p0), .int (iz p1), .int (iz p2)])).length) Slot.unset).toArray = ls at hl ⊢
  have hl : lv_has ls 4 [(0, .ref o0), (1, .int (iz p0)), (2, .int (iz p1)), (3, .int (iz p2))] := hl
  refine lv_aload_n hx hb dX3_add_0 rfl (lv_at hl 0 rfl) ?_
  refine va_get (D := (dC, dI)) (ci := 3) (v := .ref o1) (C := RX3) (T := TX3) (N := 3) hx hb hts kt_X3 hown hK hP 0 rfl rfl 0 (by decide) (kx_word hG kq_15_xspan_32 rfl) (fun _ h9 => h9) rfl dX3_add_1 ?_
  refine lv_iload_n hx hb dX3_add_4 rfl (lv_at hl 1 rfl) ?_
  have hPc := hP.sub (ws' := (iU cI L o1 r1 n1 z1 F1)) [1, 2] rfl
  have hDc := hD.sub (ws' := (iU cI L o1 r1 n1 z1 F1)) [1, 2] (by decide) rfl
  have hFc := va_free (wc := (iU cI L o1 r1 n1 z1 F1)) hD hS hA [1, 2] rfl
  refine xk_call (va_runV (As := [.int (iz p0)]) (rest := []) ⟨hx, hb, hml, hown, hts⟩ (x_add l dC dI cI cB cE L o1 r1 n1 z1 F1 p0 s.heap.size hok1 hF1 (by omega) (by omega)) (cwV 1 hts (kx_gV kq_15_xspan_45 kq_15_xspan_46 kq_15_xspan_47 kq_13_xints_6 kq_15_xspan_48 rfl) rfl rfl rfl (by decide +kernel) ⟨Nat.le_of_ble_eq_true rfl, Nat.le_of_ble_eq_true rfl⟩) ⟨kx_blind, va_recv hK hPc (ci := 1) (q0 := 0) rfl rfl, kx_give (ws := []) (tys := []) hPc hDc hK hG hZ hS hFc⟩ rfl rfl hl.1 rfl (lv_room (Nat.le_of_ble_eq_true rfl)) dX3_add_5 ⟨show 0 + 1 ≤ 3 from (by omega), show 0 + 1600 ≤ 4800 from (by omega)⟩) hS (fun q _ h => hFc q h) hFc (fun u dn_2 dm_3 t H locs ht hvm hq_1 hB hk1 hS => ?_)
  obtain ⟨r_4, n_5, z_6, F_7⟩ := u
  obtain ⟨hP1, hK1, hD1⟩ := hB
  rw [ht] at hP1
  obtain ⟨hP, hD⟩ := xj (wr := [(o0, .inr (3, [.ref o1, .ref o2, .ref o3])), (o2, .inr (1, [.int (iz L), .ref r2, .int (iz z2)])), (r2, .inl (cI, n2, .inl (iA F2))), (o3, .inr (1, [.int (iz L), .ref r3, .int (iz z3)])), (r3, .inl (cI, n3, .inl (iA F3)))]) (w1 := (iU cI L o1 r_4 n_5 z_6 F_7)) (ws' := (sU cI L o0 o1 o2 o3 r_4 r2 r3 n_5 n2 n3 z_6 z2 z3 F_7 F2 F3)) hP hD [1, 2] [0, 3, 4, 5, 6] [0, 5, 6, 1, 2, 3, 4] rfl rfl (by decide) (by decide) hk1 hFc hP1 hD1 rfl (by decide)
  refine W.eq (g2 := F0 m 8 ls []) rfl ?_
  try dsimp only at hq_1
  obtain ⟨ha1, hb1, hc1, hd1⟩ := hq_1
  refine lv_aload_n hx hb dX3_add_8 rfl (lv_at hl 0 rfl) ?_
  refine va_get (D := (dC, dI)) (ci := 3) (v := .ref o2) (C := RX3) (T := TX3) (N := 3) hx hb hts kt_X3 hown hK hP 0 rfl rfl 1 (by decide) (kx_word hG kq_15_xspan_39 rfl) (fun _ h9 => h9) rfl dX3_add_9 ?_
  refine lv_iload_n hx hb dX3_add_12 rfl (lv_at hl 2 rfl) ?_
  have hPc := hP.sub (ws' := (iU cI L o2 r2 n2 z2 F2)) [3, 4] rfl
  have hDc := hD.sub (ws' := (iU cI L o2 r2 n2 z2 F2)) [3, 4] (by decide) rfl
  have hFc := va_free (wc := (iU cI L o2 r2 n2 z2 F2)) hD hS hA [3, 4] rfl
  refine xk_call (va_runV (As := [.int (iz p1)]) (rest := []) ⟨hx, hb, hml, hown, hts⟩ (x_add l dC dI cI cB cE L o2 r2 n2 z2 F2 p1 H.size hok2 hF2 (by omega) (by omega)) (cwV 1 hts (kx_gV kq_15_xspan_45 kq_15_xspan_46 kq_15_xspan_47 kq_13_xints_6 kq_15_xspan_48 rfl) rfl rfl rfl (by decide +kernel) ⟨Nat.le_of_ble_eq_true rfl, Nat.le_of_ble_eq_true rfl⟩) ⟨kx_blind, va_recv hK hPc (ci := 1) (q0 := 0) rfl rfl, kx_give (ws := []) (tys := []) hPc hDc hK hG hZ hS hFc⟩ rfl rfl hl.1 rfl (lv_room (Nat.le_of_ble_eq_true rfl)) dX3_add_13 ⟨show (0 + dn_2) + 1 ≤ 3 from (by omega), show (0 + dm_3) + 1600 ≤ 4800 from (by omega)⟩) hS (fun q _ h => hFc q h) hFc (fun u dn_9 dm_10 t H locs ht hvm hq_8 hB hk1 hS => ?_)
  obtain ⟨r_11, n_12, z_13, F_14⟩ := u
  obtain ⟨hP1, hK1, hD1⟩ := hB
  rw [ht] at hP1
  obtain ⟨hP, hD⟩ := xj (wr := [(o0, .inr (3, [.ref o1, .ref o2, .ref o3])), (o1, .inr (1, [.int (iz L), .ref r_4, .int (iz z_6)])), (r_4, .inl (cI, n_5, .inl (iA F_7))), (o3, .inr (1, [.int (iz L), .ref r3, .int (iz z3)])), (r3, .inl (cI, n3, .inl (iA F3)))]) (w1 := (iU cI L o2 r_11 n_12 z_13 F_14)) (ws' := (sU cI L o0 o1 o2 o3 r_4 r_11 r3 n_5 n_12 n3 z_6 z_13 z3 F_7 F_14 F3)) hP hD [3, 4] [0, 1, 2, 5, 6] [0, 1, 2, 5, 6, 3, 4] rfl rfl (by decide) (by decide) hk1 hFc hP1 hD1 rfl (by decide)
  refine W.eq (g2 := F0 m 16 ls []) rfl ?_
  try dsimp only at hq_8
  obtain ⟨ha2, hb2, hc2, hd2⟩ := hq_8
  refine lv_aload_n hx hb dX3_add_16 rfl (lv_at hl 0 rfl) ?_
  refine va_get (D := (dC, dI)) (ci := 3) (v := .ref o3) (C := RX3) (T := TX3) (N := 3) hx hb hts kt_X3 hown hK hP 0 rfl rfl 2 (by decide) (kx_word hG kq_15_xspan_40 rfl) (fun _ h9 => h9) rfl dX3_add_17 ?_
  refine lv_iload_n hx hb dX3_add_20 rfl (lv_at hl 3 rfl) ?_
  refine ki_if_eq (tgt := 28) hx hb dX3_add_21 (by decide) (by omega) (by omega) (fun c_15 => ?_) (fun c_15 => ?_)
  · skip
    refine lv_iconst (v := iz 0) hx hb dX3_add_28 (by decide) ?_
    have hPc := hP.sub (ws' := (iU cI L o3 r3 n3 z3 F3)) [5, 6] rfl
    have hDc := hD.sub (ws' := (iU cI L o3 r3 n3 z3 F3)) [5, 6] (by decide) rfl
    have hFc := va_free (wc := (iU cI L o3 r3 n3 z3 F3)) hD hS hA [5, 6] rfl
    refine xk_call (va_runV (As := [.int (iz 0)]) (rest := []) ⟨hx, hb, hml, hown, hts⟩ (x_add l dC dI cI cB cE L o3 r3 n3 z3 F3 0 H.size hok3 hF3 (by omega) (by omega)) (cwV 1 hts (kx_gV kq_15_xspan_45 kq_15_xspan_46 kq_15_xspan_47 kq_13_xints_6 kq_15_xspan_48 rfl) rfl rfl rfl (by decide +kernel) ⟨Nat.le_of_ble_eq_true rfl, Nat.le_of_ble_eq_true rfl⟩) ⟨kx_blind, va_recv hK hPc (ci := 1) (q0 := 0) rfl rfl, kx_give (ws := []) (tys := []) hPc hDc hK hG hZ hS hFc⟩ rfl rfl hl.1 rfl (lv_room (Nat.le_of_ble_eq_true rfl)) dX3_add_29 ⟨show ((0 + dn_2) + dn_9) + 1 ≤ 3 from (by omega), show ((0 + dm_3) + dm_10) + 1600 ≤ 4800 from (by omega)⟩) hS (fun q _ h => hFc q h) hFc (fun u dn_17 dm_18 t H locs ht hvm hq_16 hB hk1 hS => ?_)
    obtain ⟨r_19, n_20, z_21, F_22⟩ := u
    obtain ⟨hP1, hK1, hD1⟩ := hB
    rw [ht] at hP1
    obtain ⟨hP, hD⟩ := xj (wr := [(o0, .inr (3, [.ref o1, .ref o2, .ref o3])), (o1, .inr (1, [.int (iz L), .ref r_4, .int (iz z_6)])), (r_4, .inl (cI, n_5, .inl (iA F_7))), (o2, .inr (1, [.int (iz L), .ref r_11, .int (iz z_13)])), (r_11, .inl (cI, n_12, .inl (iA F_14)))]) (w1 := (iU cI L o3 r_19 n_20 z_21 F_22)) (ws' := (sU cI L o0 o1 o2 o3 r_4 r_11 r_19 n_5 n_12 n_20 z_6 z_13 z_21 F_7 F_14 F_22)) hP hD [5, 6] [0, 1, 2, 3, 4] [0, 1, 2, 3, 4, 5, 6] rfl rfl (by decide) (by decide) hk1 hFc hP1 hD1 rfl (by decide)
    refine W.eq (g2 := F0 m 32 ls []) rfl ?_
    try dsimp only at hq_16
    obtain ⟨ha3, hb3, hc3, hd3⟩ := hq_16
    exact xk_vret (ov := (fun _ : Nat × Nat × Int × (Int → Int) × Nat × Nat × Int × (Int → Int) × Nat × Nat × Int × (Int → Int) => none)) (post := (fun (u : Nat × Nat × Int × (Int → Int) × Nat × Nat × Int × (Int → Int) × Nat × Nat × Int × (Int → Int)) (dn dm : Nat) => match u with | (r1', n1', z1', F1', r2', n2', z2', F2', r3', n3', z3', F3') => (0 ≤ z1' ∧ z1' ≤ (n1' : Int) ∧ (n1' : Int) ≤ L) ∧ iB F1' ∧ (0 ≤ z2' ∧ z2' ≤ (n2' : Int) ∧ (n2' : Int) ≤ L) ∧ iB F2' ∧ (0 ≤ z3' ∧ z3' ≤ (n3' : Int) ∧ (n3' : Int) ≤ L) ∧ iB F3' ∧ (dn + psg L n1' + psg L n2' + psg L n3' ≤ psg L n1 + psg L n2 + psg L n3 ∧ dm + psj L n1' + psj L n2' + psj L n3' ≤ psj L n1 + psj L n2 + psj L n3) ∧ iAdd L z1 F1 z1' F1' p0 ∧ iAdd L z2 F2 z2' F2' p1 ∧ iAdd L z3 F3 z3' F3' p2)) (ws := (fun u : Nat × Nat × Int × (Int → Int) × Nat × Nat × Int × (Int → Int) × Nat × Nat × Int × (Int → Int) => match u with | (r1', n1', z1', F1', r2', n2', z2', F2', r3', n3', z3', F3') => (sU cI L o0 o1 o2 o3 r1' r2' r3' n1' n2' n3' z1' z2' z3' F1' F2' F3'))) (tys := xT cI cB cE) (r_4, n_5, z_6, F_7, r_11, n_12, z_13, F_14, r_19, n_20, z_21, F_22) hx hb hr hlocks rfl hP hD hK hS dX3_add_32 (fun dn dm hdn hdm => ⟨by omega, hb1, by omega, hb2, by omega, hb3, by omega, hd1, hd2, (by first | (have e9 : p2 = 0 := by omega); rw [e9]; exact hd3 | (have e9 : p2 = 1 := by omega); rw [e9]; exact hd3)⟩) (by omega) (by omega)
  · skip
    refine lv_iconst (v := iz 1) hx hb dX3_add_24 (by decide) ?_
    refine lv_goto (tgt := 29) hx hb dX3_add_25 (by decide) ?_
    have hPc := hP.sub (ws' := (iU cI L o3 r3 n3 z3 F3)) [5, 6] rfl
    have hDc := hD.sub (ws' := (iU cI L o3 r3 n3 z3 F3)) [5, 6] (by decide) rfl
    have hFc := va_free (wc := (iU cI L o3 r3 n3 z3 F3)) hD hS hA [5, 6] rfl
    refine xk_call (va_runV (As := [.int (iz 1)]) (rest := []) ⟨hx, hb, hml, hown, hts⟩ (x_add l dC dI cI cB cE L o3 r3 n3 z3 F3 1 H.size hok3 hF3 (by omega) (by omega)) (cwV 1 hts (kx_gV kq_15_xspan_45 kq_15_xspan_46 kq_15_xspan_47 kq_13_xints_6 kq_15_xspan_48 rfl) rfl rfl rfl (by decide +kernel) ⟨Nat.le_of_ble_eq_true rfl, Nat.le_of_ble_eq_true rfl⟩) ⟨kx_blind, va_recv hK hPc (ci := 1) (q0 := 0) rfl rfl, kx_give (ws := []) (tys := []) hPc hDc hK hG hZ hS hFc⟩ rfl rfl hl.1 rfl (lv_room (Nat.le_of_ble_eq_true rfl)) dX3_add_29 ⟨show ((0 + dn_2) + dn_9) + 1 ≤ 3 from (by omega), show ((0 + dm_3) + dm_10) + 1600 ≤ 4800 from (by omega)⟩) hS (fun q _ h => hFc q h) hFc (fun u dn_24 dm_25 t H locs ht hvm hq_23 hB hk1 hS => ?_)
    obtain ⟨r_26, n_27, z_28, F_29⟩ := u
    obtain ⟨hP1, hK1, hD1⟩ := hB
    rw [ht] at hP1
    obtain ⟨hP, hD⟩ := xj (wr := [(o0, .inr (3, [.ref o1, .ref o2, .ref o3])), (o1, .inr (1, [.int (iz L), .ref r_4, .int (iz z_6)])), (r_4, .inl (cI, n_5, .inl (iA F_7))), (o2, .inr (1, [.int (iz L), .ref r_11, .int (iz z_13)])), (r_11, .inl (cI, n_12, .inl (iA F_14)))]) (w1 := (iU cI L o3 r_26 n_27 z_28 F_29)) (ws' := (sU cI L o0 o1 o2 o3 r_4 r_11 r_26 n_5 n_12 n_27 z_6 z_13 z_28 F_7 F_14 F_29)) hP hD [5, 6] [0, 1, 2, 3, 4] [0, 1, 2, 3, 4, 5, 6] rfl rfl (by decide) (by decide) hk1 hFc hP1 hD1 rfl (by decide)
    refine W.eq (g2 := F0 m 32 ls []) rfl ?_
    try dsimp only at hq_23
    obtain ⟨ha3, hb3, hc3, hd3⟩ := hq_23
    exact xk_vret (ov := (fun _ : Nat × Nat × Int × (Int → Int) × Nat × Nat × Int × (Int → Int) × Nat × Nat × Int × (Int → Int) => none)) (post := (fun (u : Nat × Nat × Int × (Int → Int) × Nat × Nat × Int × (Int → Int) × Nat × Nat × Int × (Int → Int)) (dn dm : Nat) => match u with | (r1', n1', z1', F1', r2', n2', z2', F2', r3', n3', z3', F3') => (0 ≤ z1' ∧ z1' ≤ (n1' : Int) ∧ (n1' : Int) ≤ L) ∧ iB F1' ∧ (0 ≤ z2' ∧ z2' ≤ (n2' : Int) ∧ (n2' : Int) ≤ L) ∧ iB F2' ∧ (0 ≤ z3' ∧ z3' ≤ (n3' : Int) ∧ (n3' : Int) ≤ L) ∧ iB F3' ∧ (dn + psg L n1' + psg L n2' + psg L n3' ≤ psg L n1 + psg L n2 + psg L n3 ∧ dm + psj L n1' + psj L n2' + psj L n3' ≤ psj L n1 + psj L n2 + psj L n3) ∧ iAdd L z1 F1 z1' F1' p0 ∧ iAdd L z2 F2 z2' F2' p1 ∧ iAdd L z3 F3 z3' F3' p2)) (ws := (fun u : Nat × Nat × Int × (Int → Int) × Nat × Nat × Int × (Int → Int) × Nat × Nat × Int × (Int → Int) => match u with | (r1', n1', z1', F1', r2', n2', z2', F2', r3', n3', z3', F3') => (sU cI L o0 o1 o2 o3 r1' r2' r3' n1' n2' n3' z1' z2' z3' F1' F2' F3'))) (tys := xT cI cB cE) (r_4, n_5, z_6, F_7, r_11, n_12, z_13, F_14, r_26, n_27, z_28, F_29) hx hb hr hlocks rfl hP hD hK hS dX3_add_32 (fun dn dm hdn hdm => ⟨by omega, hb1, by omega, hb2, by omega, hb3, by omega, hd1, hd2, (by first | (have e9 : p2 = 0 := by omega); rw [e9]; exact hd3 | (have e9 : p2 = 1 := by omega); rw [e9]; exact hd3)⟩) (by omega) (by omega)
set_option maxHeartbeats 4000000 in
set_option maxRecDepth 100000 in
theorem x_sendAt (l : Launch) (dC : Nat → ClassId) (dI : Nat → Nat → Nat) (cI cB cE : ClassId) (L : Int) (o0 : Nat) (o1 : Nat) (o2 : Nat) (o3 : Nat) (r1 : Nat) (r2 : Nat) (r3 : Nat) (n1 : Nat) (n2 : Nat) (n3 : Nat) (z1 : Int) (z2 : Int) (z3 : Int) (F1 : Int → Int) (F2 : Int → Int) (F3 : Int → Int) (p0 : Int) (p1 : Int) (sz : Nat) (hok1 : 0 ≤ z1 ∧ z1 ≤ (n1 : Int) ∧ (n1 : Int) ≤ L ∧ L ≤ 1600) (hF1 : iB F1) (hok2 : 0 ≤ z2 ∧ z2 ≤ (n2 : Int) ∧ (n2 : Int) ≤ L ∧ L ≤ 1600) (hF2 : iB F2) (hok3 : 0 ≤ z3 ∧ z3 ≤ (n3 : Int) ∧ (n3 : Int) ≤ L ∧ L ≤ 1600) (hF3 : iB F3) (hp01 : -2147483648 ≤ p0) (hp02 : p0 < 2147483648) (hp11 : -2147483648 ≤ p1) (hp12 : p1 < 2147483648) : Met l yX3_endAt [.code yX3_endAt cX3_endAt 3 none] ({ frames := 1, cells := 0, slots := 0, locals := 22 }) (va_Pc [.ref o0, .int (iz p0), .int (iz p1)] (kx_Pre dC dI (sU cI L o0 o1 o2 o3 r1 r2 r3 n1 n2 n3 z1 z2 z3 F1 F2 F3) (xT cI cB cE) sz)) (xQ (fun _ : (Int → Int) × (Int → Int) => none) (fun (u : (Int → Int) × (Int → Int)) (dn dm : Nat) => match u with | (F2', F3') => dn = 0 ∧ dm = 0 ∧ iB F2' ∧ iB F3') (fun u t => kx_At dC dI (va_A (sU cI L o0 o1 o2 o3 r1 r2 r3 n1 n2 n3 z1 z2 z3 F1 F2 F3) sz) ((fun u : (Int → Int) × (Int → Int) => match u with | (F2', F3') => (sU cI L o0 o1 o2 o3 r1 r2 r3 n1 n2 n3 z1 z2 z3 F1 F2' F3')) u) (xT cI cB cE) t) (va_A (sU cI L o0 o1 o2 o3 r1 r2 r3 n1 n2 n3 z1 z2 z3 F1 F2 F3) sz)) 0 0 (va_A (sU cI L o0 o1 o2 o3 r1 r2 r3 n1 n2 n3 z1 z2 z3 F1 F2 F3) sz) := by
  refine Met.ofW (cc := cX3_endAt) (maxL := 3) (ret := none) (by decide) rfl ?_
  intro p e s m args below meth c s₁ B hml hv
  obtain ⟨rfl, hsz, hP, hK, hD0, hG, hZ⟩ := hv
  have hx := B.exec
  have hb := B.bytes
  have hr := B.returns
  have hts := kx_hts (a := ([.ref o0, .int (iz p0), .int (iz p1)] : List Value).toArray) hG
  have hown : s.vm.findClass RX3 = some m.cls := findClass_of_methodNamed B.named
  have hlocks := B.notSynchronized
  subst hsz
  have hD := hD0.self (sz := s.heap.size)
  generalize hAe : va_A (sU cI L o0 o1 o2 o3 r1 r2 r3 n1 n2 n3 z1 z2 z3 F1 F2 F3) s.heap.size = A at hD hZ ⊢
  have hA : ∀ q : Nat, s.heap.size ≤ q → A q := fun q h => by rw [← hAe]; exact Or.inr h
  have hS : va_S A s.heap s.heap [] := va_S.rf
  have hl := lv_entry ([.ref o0, .int (iz p0), .int (iz p1)]) (n := 3) (Nat.le_of_ble_eq_true rfl)
  rw [lg_entry_eq]
  generalize (lg_sl ([.ref o0, .int (iz p0), .int (iz p1)]) ++ List.replicate (3 - (lg_sl ([.ref o0, .int (iz p0), .int (iz p1)])).length) Slot.unset).toArray = ls at hl ⊢
  have hl : lv_has ls 3 [(0, .ref o0), (1, .int (iz p0)), (2, .int (iz p1))] := hl
  refine lv_aload_n hx hb dX3_endAt_0 rfl (lv_at hl 0 rfl) ?_
  refine va_get (D := (dC, dI)) (ci := 3) (v := .ref o2) (C := RX3) (T := TX3) (N := 3) hx hb hts kt_X3 hown hK hP 0 rfl rfl 1 (by decide) (kx_word hG kq_15_xspan_39 rfl) (fun _ h9 => h9) rfl dX3_endAt_1 ?_
  refine lv_iload_n hx hb dX3_endAt_4 rfl (lv_at hl 1 rfl) ?_
  refine lv_iload_n hx hb dX3_endAt_5 rfl (lv_at hl 2 rfl) ?_
  have hPc := hP.sub (ws' := (iU cI L o2 r2 n2 z2 F2)) [3, 4] rfl
  have hDc := hD.sub (ws' := (iU cI L o2 r2 n2 z2 F2)) [3, 4] (by decide) rfl
  have hFc := va_free (wc := (iU cI L o2 r2 n2 z2 F2)) hD hS hA [3, 4] rfl
  refine xk_call (va_runV (As := [.int (iz p0), .int (iz p1)]) (rest := []) ⟨hx, hb, hml, hown, hts⟩ (x_set l dC dI cI cB cE L o2 r2 n2 z2 F2 p0 p1 s.heap.size hok2 hF2 (by omega) (by omega) (by omega) (by omega)) (cwV 2 hts (kx_gV kq_15_xspan_49 kq_13_xints_9 kq_13_xints_10 kq_13_xints_6 kq_13_xints_11 rfl) rfl rfl rfl (by decide +kernel) ⟨Nat.le_of_ble_eq_true rfl, Nat.le_of_ble_eq_true rfl⟩) ⟨kx_blind, va_recv hK hPc (ci := 1) (q0 := 0) rfl rfl, kx_give (ws := []) (tys := []) hPc hDc hK hG hZ hS hFc⟩ rfl rfl hl.1 rfl (lv_room (Nat.le_of_ble_eq_true rfl)) dX3_endAt_6 ⟨show 0 + 0 ≤ 0 from (by omega), show 0 + 0 ≤ 0 from (by omega)⟩) hS (fun q _ h => hFc q h) hFc (fun u dn_2 dm_3 t H locs ht hvm hq_1 hB hk1 hS => ?_)
  obtain ⟨F_4, rfl⟩ : ∃ z, z = u := ⟨_, rfl⟩
  obtain ⟨hP1, hK1, hD1⟩ := hB
  rw [ht] at hP1
  obtain ⟨hP, hD⟩ := xj (wr := [(o0, .inr (3, [.ref o1, .ref o2, .ref o3])), (o1, .inr (1, [.int (iz L), .ref r1, .int (iz z1)])), (r1, .inl (cI, n1, .inl (iA F1))), (o3, .inr (1, [.int (iz L), .ref r3, .int (iz z3)])), (r3, .inl (cI, n3, .inl (iA F3)))]) (w1 := (iU cI L o2 r2 n2 z2 F_4)) (ws' := (sU cI L o0 o1 o2 o3 r1 r2 r3 n1 n2 n3 z1 z2 z3 F1 F_4 F3)) hP hD [3, 4] [0, 1, 2, 5, 6] [0, 1, 2, 5, 6, 3, 4] rfl rfl (by decide) (by decide) hk1 hFc hP1 hD1 rfl (by decide)
  refine W.eq (g2 := F0 m 9 ls []) rfl ?_
  try dsimp only at hq_1
  obtain ⟨hd1, hm1, hg1⟩ := hq_1
  refine lv_aload_n hx hb dX3_endAt_9 rfl (lv_at hl 0 rfl) ?_
  refine va_get (D := (dC, dI)) (ci := 3) (v := .ref o3) (C := RX3) (T := TX3) (N := 3) hx hb hts kt_X3 hown hK hP 0 rfl rfl 2 (by decide) (kx_word hG kq_15_xspan_40 rfl) (fun _ h9 => h9) rfl dX3_endAt_10 ?_
  refine lv_iload_n hx hb dX3_endAt_13 rfl (lv_at hl 1 rfl) ?_
  refine lv_iconst (v := iz 1) hx hb dX3_endAt_14 (by decide) ?_
  have hPc := hP.sub (ws' := (iU cI L o3 r3 n3 z3 F3)) [5, 6] rfl
  have hDc := hD.sub (ws' := (iU cI L o3 r3 n3 z3 F3)) [5, 6] (by decide) rfl
  have hFc := va_free (wc := (iU cI L o3 r3 n3 z3 F3)) hD hS hA [5, 6] rfl
  refine xk_call (va_runV (As := [.int (iz p0), .int (iz 1)]) (rest := []) ⟨hx, hb, hml, hown, hts⟩ (x_set l dC dI cI cB cE L o3 r3 n3 z3 F3 p0 1 H.size hok3 hF3 (by omega) (by omega) (by omega) (by omega)) (cwV 2 hts (kx_gV kq_15_xspan_49 kq_13_xints_9 kq_13_xints_10 kq_13_xints_6 kq_13_xints_11 rfl) rfl rfl rfl (by decide +kernel) ⟨Nat.le_of_ble_eq_true rfl, Nat.le_of_ble_eq_true rfl⟩) ⟨kx_blind, va_recv hK hPc (ci := 1) (q0 := 0) rfl rfl, kx_give (ws := []) (tys := []) hPc hDc hK hG hZ hS hFc⟩ rfl rfl hl.1 rfl (lv_room (Nat.le_of_ble_eq_true rfl)) dX3_endAt_15 ⟨show (0 + dn_2) + 0 ≤ 0 from (by omega), show (0 + dm_3) + 0 ≤ 0 from (by omega)⟩) hS (fun q _ h => hFc q h) hFc (fun u dn_6 dm_7 t H locs ht hvm hq_5 hB hk1 hS => ?_)
  obtain ⟨F_8, rfl⟩ : ∃ z, z = u := ⟨_, rfl⟩
  obtain ⟨hP1, hK1, hD1⟩ := hB
  rw [ht] at hP1
  obtain ⟨hP, hD⟩ := xj (wr := [(o0, .inr (3, [.ref o1, .ref o2, .ref o3])), (o1, .inr (1, [.int (iz L), .ref r1, .int (iz z1)])), (r1, .inl (cI, n1, .inl (iA F1))), (o2, .inr (1, [.int (iz L), .ref r2, .int (iz z2)])), (r2, .inl (cI, n2, .inl (iA F_4)))]) (w1 := (iU cI L o3 r3 n3 z3 F_8)) (ws' := (sU cI L o0 o1 o2 o3 r1 r2 r3 n1 n2 n3 z1 z2 z3 F1 F_4 F_8)) hP hD [5, 6] [0, 1, 2, 3, 4] [0, 1, 2, 3, 4, 5, 6] rfl rfl (by decide) (by decide) hk1 hFc hP1 hD1 rfl (by decide)
  refine W.eq (g2 := F0 m 18 ls []) rfl ?_
  try dsimp only at hq_5
  obtain ⟨hd2, hm2, hg2⟩ := hq_5
  exact xk_vret (ov := (fun _ : (Int → Int) × (Int → Int) => none)) (post := (fun (u : (Int → Int) × (Int → Int)) (dn dm : Nat) => match u with | (F2', F3') => dn = 0 ∧ dm = 0 ∧ iB F2' ∧ iB F3')) (ws := (fun u : (Int → Int) × (Int → Int) => match u with | (F2', F3') => (sU cI L o0 o1 o2 o3 r1 r2 r3 n1 n2 n3 z1 z2 z3 F1 F2' F3'))) (tys := xT cI cB cE) (F_4, F_8) hx hb hr hlocks rfl hP hD hK hS dX3_endAt_18 (fun dn dm hdn hdm => ⟨by omega, by omega, hg1, hg2⟩) (by omega) (by omega)
set_option maxHeartbeats 4000000 in
set_option maxRecDepth 100000 in
theorem x_ssink (l : Launch) (dC : Nat → ClassId) (dI : Nat → Nat → Nat) (cI cB cE : ClassId) (L : Int) (o0 : Nat) (o1 : Nat) (o2 : Nat) (o3 : Nat) (r1 : Nat) (r2 : Nat) (r3 : Nat) (n1 : Nat) (n2 : Nat) (n3 : Nat) (z1 : Int) (z2 : Int) (z3 : Int) (F1 : Int → Int) (F2 : Int → Int) (F3 : Int → Int) (sz : Nat) (hok1 : 0 ≤ z1 ∧ z1 ≤ (n1 : Int) ∧ (n1 : Int) ≤ L ∧ L ≤ 1600) (hF1 : iB F1) (hok2 : 0 ≤ z2 ∧ z2 ≤ (n2 : Int) ∧ (n2 : Int) ≤ L ∧ L ≤ 1600) (hF2 : iB F2) (hok3 : 0 ≤ z3 ∧ z3 ≤ (n3 : Int) ∧ (n3 : Int) ≤ L ∧ L ≤ 1600) (hF3 : iB F3) : Met l yX3_sinkLast [.code yX3_sinkLast cX3_sinkLast 2 none] ({ frames := 2, cells := 0, slots := 0, locals := 45 }) (va_Pc [.ref o0] (kx_Pre dC dI (sU cI L o0 o1 o2 o3 r1 r2 r3 n1 n2 n3 z1 z2 z3 F1 F2 F3) (xT cI cB cE) sz)) (xQ (fun _ : (Int → Int) × (Int → Int) × (Int → Int) => none) (fun (u : (Int → Int) × (Int → Int) × (Int → Int)) (dn dm : Nat) => match u with | (F1', F2', F3') => dn = 0 ∧ dm = 0 ∧ iB F1' ∧ iB F2' ∧ iB F3') (fun u t => kx_At dC dI (va_A (sU cI L o0 o1 o2 o3 r1 r2 r3 n1 n2 n3 z1 z2 z3 F1 F2 F3) sz) ((fun u : (Int → Int) × (Int → Int) × (Int → Int) => match u with | (F1', F2', F3') => (sU cI L o0 o1 o2 o3 r1 r2 r3 n1 n2 n3 z1 z2 z3 F1' F2' F3')) u) (xT cI cB cE) t) (va_A (sU cI L o0 o1 o2 o3 r1 r2 r3 n1 n2 n3 z1 z2 z3 F1 F2 F3) sz)) 0 0 (va_A (sU cI L o0 o1 o2 o3 r1 r2 r3 n1 n2 n3 z1 z2 z3 F1 F2 F3) sz) := by
  refine Met.ofW (cc := cX3_sinkLast) (maxL := 2) (ret := none) (by decide) rfl ?_
  intro p e s m args below meth c s₁ B hml hv
  obtain ⟨rfl, hsz, hP, hK, hD0, hG, hZ⟩ := hv
  have hx := B.exec
  have hb := B.bytes
  have hr := B.returns
  have hts := kx_hts (a := ([.ref o0] : List Value).toArray) hG
  have hown : s.vm.findClass RX3 = some m.cls := findClass_of_methodNamed B.named
  have hlocks := B.notSynchronized
  subst hsz
  have hD := hD0.self (sz := s.heap.size)
  generalize hAe : va_A (sU cI L o0 o1 o2 o3 r1 r2 r3 n1 n2 n3 z1 z2 z3 F1 F2 F3) s.heap.size = A at hD hZ ⊢
  have hA : ∀ q : Nat, s.heap.size ≤ q → A q := fun q h => by rw [← hAe]; exact Or.inr h
  have hS : va_S A s.heap s.heap [] := va_S.rf
  have hl := lv_entry ([.ref o0]) (n := 2) (Nat.le_of_ble_eq_true rfl)
  rw [lg_entry_eq]
  generalize (lg_sl ([.ref o0]) ++ List.replicate (2 - (lg_sl ([.ref o0])).length) Slot.unset).toArray = ls at hl ⊢
  have hl : lv_has ls 2 [(0, .ref o0)] := hl
  generalize hQe : MQ below (xQ (fun _ : (Int → Int) × (Int → Int) × (Int → Int) => none) (fun (u : (Int → Int) × (Int → Int) × (Int → Int)) (dn dm : Nat) => match u with | (F1', F2', F3') => dn = 0 ∧ dm = 0 ∧ iB F1' ∧ iB F2' ∧ iB F3') (fun u t => kx_At dC dI A ((fun u : (Int → Int) × (Int → Int) × (Int → Int) => match u with | (F1', F2', F3') => (sU cI L o0 o1 o2 o3 r1 r2 r3 n1 n2 n3 z1 z2 z3 F1' F2' F3')) u) (xT cI cB cE) t) A) ([.ref o0] : List Value).toArray s 0 0 A = QQ
  refine lv_aload_n hx hb dX3_sinkLast_0 rfl (lv_at hl 0 rfl) ?_
  have hPc := hP.sub (ws' := (sU cI L o0 o1 o2 o3 r1 r2 r3 n1 n2 n3 z1 z2 z3 F1 F2 F3)) [0, 1, 2, 3, 4, 5, 6] rfl
  refine xk_pure (va_runV (As := []) (rest := []) ⟨hx, hb, hml, hown, hts⟩ (x_ssize l dC dI cI cB cE L o0 o1 o2 o3 r1 r2 r3 n1 n2 n3 z1 z2 z3 F1 F2 F3  s.heap.size ) (cwV 0 hts (kx_gV kq_15_xspan_50 kq_15_xspan_51 kq_15_xspan_52 kq_15_xspan_53 kq_15_xspan_54 rfl) rfl rfl rfl (by decide +kernel) ⟨Nat.le_of_ble_eq_true rfl, Nat.le_of_ble_eq_true rfl⟩) ⟨pPre_blind, va_recv hK hPc (ci := 3) (q0 := 0) rfl rfl, pPre_give hPc hK hG⟩ rfl rfl hl.1 rfl (lv_room (Nat.le_of_ble_eq_true rfl)) dX3_sinkLast_1 ⟨show 0 + 0 ≤ 0 from (by omega), show 0 + 0 ≤ 0 from (by omega)⟩) hS (fun z_2 locs hq_1 hS => ?_)
  refine W.eq (g2 := F0 m 4 ls [.int (iz z_2)]) rfl ?_
  try dsimp only at hq_1
  have hq_1 := hq_1.symm
  subst hq_1
  refine lv_iconst (v := iz 1) hx hb dX3_sinkLast_4 (by decide) ?_
  refine ki_isub hx hb dX3_sinkLast_5 ?_
  refine lv_istore_n (lv' := [(1, .int (iz (z1 - 1))), (0, .ref o0)]) hx hb dX3_sinkLast_6 rfl hl (by decide) rfl (fun ls hl => ?_)
  have lp7 : ∀ (n0 : Nat) (k : Int) (G1 : Int → Int) (G2 : Int → Int) (G3 : Int → Int), ((-1 ≤ k ∧ k < z1) ∧ (iB G1) ∧ (iB G2) ∧ (iB G3)) → (k).toNat < n0 → ∀ (H : Heap) (locs : List Loc), va_P (dC, dI) kxCl (sU cI L o0 o1 o2 o3 r1 r2 r3 n1 n2 n3 z1 z2 z3 G1 G2 G3) H → va_D A (sU cI L o0 o1 o2 o3 r1 r2 r3 n1 n2 n3 z1 z2 z3 G1 G2 G3) → va_S A s.heap H locs → ∀ ls : Array Slot, lv_has ls 2 [(1, .int (iz k)), (0, .ref o0)] → W p l e (headSpec [.code yX3_sinkLast cX3_sinkLast 2 none] ({ frames := 2, cells := 0, slots := 0, locals := 45 })).room s m ([.ref o0] : List Value).toArray below meth c H locs 0 0 QQ (F0 m 7 ls []) := by
    intro n0
    induction n0 with
    | zero => intro k G1 G2 G3 hinv hm0; exact absurd hm0 (Nat.not_lt_zero _)
    | succ n0 ih7 =>
      intro k G1 G2 G3 hinv hm0 H locs hP hD hS ls hl
      obtain ⟨hk, hv1, hv2, hv3⟩ := hinv
      refine lv_iload_n hx hb dX3_sinkLast_7 rfl (lv_at hl 0 rfl) ?_
      refine ki_if_le (tgt := 65) hx hb dX3_sinkLast_8 (by decide) (by omega) (by omega) (fun c_3 => ?_) (fun c_3 => ?_)
      · skip
        rw [← hQe]
        exact xk_vret (ov := (fun _ : (Int → Int) × (Int → Int) × (Int → Int) => none)) (post := (fun (u : (Int → Int) × (Int → Int) × (Int → Int)) (dn dm : Nat) => match u with | (F1', F2', F3') => dn = 0 ∧ dm = 0 ∧ iB F1' ∧ iB F2' ∧ iB F3')) (ws := (fun u : (Int → Int) × (Int → Int) × (Int → Int) => match u with | (F1', F2', F3') => (sU cI L o0 o1 o2 o3 r1 r2 r3 n1 n2 n3 z1 z2 z3 F1' F2' F3'))) (tys := xT cI cB cE) (G1, G2, G3) hx hb hr hlocks rfl hP hD hK hS dX3_sinkLast_65 (fun dn dm hdn hdm => ⟨by omega, by omega, hv1, hv2, hv3⟩) (by omega) (by omega)
      · skip
        refine lv_aload_n hx hb dX3_sinkLast_11 rfl (lv_at hl 1 rfl) ?_
        refine lv_iload_n hx hb dX3_sinkLast_12 rfl (lv_at hl 0 rfl) ?_
        have hPc := hP.sub (ws' := (sU cI L o0 o1 o2 o3 r1 r2 r3 n1 n2 n3 z1 z2 z3 G1 G2 G3)) [0, 1, 2, 3, 4, 5, 6] rfl
        refine xk_pure (va_runV (As := [.int (iz k)]) (rest := []) ⟨hx, hb, hml, hown, hts⟩ (x_sfrom l dC dI cI cB cE L o0 o1 o2 o3 r1 r2 r3 n1 n2 n3 z1 z2 z3 G1 G2 G3 k H.size hok1 hv1 hok2 hv2 hok3 hv3 (by omega) (by omega)) (cwV 1 hts (kx_gV kq_15_xspan_55 kq_15_xspan_56 kq_15_xspan_57 kq_15_xspan_53 kq_15_xspan_58 rfl) rfl rfl rfl (by decide +kernel) ⟨Nat.le_of_ble_eq_true rfl, Nat.le_of_ble_eq_true rfl⟩) ⟨pPre_blind, va_recv hK hPc (ci := 3) (q0 := 0) rfl rfl, pPre_give hPc hK hG⟩ rfl rfl hl.1 rfl (lv_room (Nat.le_of_ble_eq_true rfl)) dX3_sinkLast_13 ⟨show 0 + 0 ≤ 0 from (by omega), show 0 + 0 ≤ 0 from (by omega)⟩) hS (fun z_5 locs hq_4 hS => ?_)
        refine W.eq (g2 := F0 m 16 ls [.int (iz z_5)]) rfl ?_
        try dsimp only at hq_4
        refine lv_aload_n hx hb dX3_sinkLast_16 rfl (lv_at hl 1 rfl) ?_
        refine lv_iload_n hx hb dX3_sinkLast_17 rfl (lv_at hl 0 rfl) ?_
        refine lv_iconst (v := iz 1) hx hb dX3_sinkLast_18 (by decide) ?_
        refine ki_isub hx hb dX3_sinkLast_19 ?_
        have hPc := hP.sub (ws' := (sU cI L o0 o1 o2 o3 r1 r2 r3 n1 n2 n3 z1 z2 z3 G1 G2 G3)) [0, 1, 2, 3, 4, 5, 6] rfl
        refine xk_pure (va_runV (As := [.int (iz (k - 1))]) (rest := [.int (iz z_5)]) ⟨hx, hb, hml, hown, hts⟩ (x_sfrom l dC dI cI cB cE L o0 o1 o2 o3 r1 r2 r3 n1 n2 n3 z1 z2 z3 G1 G2 G3 (k - 1) H.size hok1 hv1 hok2 hv2 hok3 hv3 (by omega) (by omega)) (cwV 1 hts (kx_gV kq_15_xspan_55 kq_15_xspan_56 kq_15_xspan_57 kq_15_xspan_53 kq_15_xspan_58 rfl) rfl rfl rfl (by decide +kernel) ⟨Nat.le_of_ble_eq_true rfl, Nat.le_of_ble_eq_true rfl⟩) ⟨pPre_blind, va_recv hK hPc (ci := 3) (q0 := 0) rfl rfl, pPre_give hPc hK hG⟩ rfl rfl hl.1 rfl (lv_room (Nat.le_of_ble_eq_true rfl)) dX3_sinkLast_20 ⟨show 0 + 0 ≤ 0 from (by omega), show 0 + 0 ≤ 0 from (by omega)⟩) hS (fun z_7 locs hq_6 hS => ?_)
        refine W.eq (g2 := F0 m 23 ls [.int (iz z_7), .int (iz z_5)]) rfl ?_
        try dsimp only at hq_6
        refine ki_icmp_ge (tgt := 65) hx hb dX3_sinkLast_23 (by decide) (by omega) (by omega) (by omega) (by omega) (fun c_8 => ?_) (fun c_8 => ?_)
        · skip
          rw [← hQe]
          exact xk_vret (ov := (fun _ : (Int → Int) × (Int → Int) × (Int → Int) => none)) (post := (fun (u : (Int → Int) × (Int → Int) × (Int → Int)) (dn dm : Nat) => match u with | (F1', F2', F3') => dn = 0 ∧ dm = 0 ∧ iB F1' ∧ iB F2' ∧ iB F3')) (ws := (fun u : (Int → Int) × (Int → Int) × (Int → Int) => match u with | (F1', F2', F3') => (sU cI L o0 o1 o2 o3 r1 r2 r3 n1 n2 n3 z1 z2 z3 F1' F2' F3'))) (tys := xT cI cB cE) (G1, G2, G3) hx hb hr hlocks rfl hP hD hK hS dX3_sinkLast_65 (fun dn dm hdn hdm => ⟨by omega, by omega, hv1, hv2, hv3⟩) (by omega) (by omega)
        · skip
          refine lv_aload_n hx hb dX3_sinkLast_26 rfl (lv_at hl 1 rfl) ?_
          refine va_get (D := (dC, dI)) (ci := 3) (v := .ref o1) (C := RX3) (T := TX3) (N := 3) hx hb hts kt_X3 hown hK hP 0 rfl rfl 0 (by decide) (kx_word hG kq_15_xspan_32 rfl) (fun _ h9 => h9) rfl dX3_sinkLast_27 ?_
          refine lv_iload_n hx hb dX3_sinkLast_30 rfl (lv_at hl 0 rfl) ?_
          refine lv_iload_n hx hb dX3_sinkLast_31 rfl (lv_at hl 0 rfl) ?_
          refine lv_iconst (v := iz 1) hx hb dX3_sinkLast_32 (by decide) ?_
          refine ki_isub hx hb dX3_sinkLast_33 ?_
          have hPc := hP.sub (ws' := (iU cI L o1 r1 n1 z1 G1)) [1, 2] rfl
          have hDc := hD.sub (ws' := (iU cI L o1 r1 n1 z1 G1)) [1, 2] (by decide) rfl
          have hFc := va_free (wc := (iU cI L o1 r1 n1 z1 G1)) hD hS hA [1, 2] rfl
          refine xk_call (va_runV (As := [.int (iz k), .int (iz (k - 1))]) (rest := []) ⟨hx, hb, hml, hown, hts⟩ (x_swap l dC dI cI cB cE L o1 r1 n1 z1 G1 k (k - 1) H.size hok1 hv1 (by omega) (by omega) (by omega) (by omega)) (cwV 2 hts (kx_gV kq_15_xspan_59 kq_15_xspan_60 kq_15_xspan_61 kq_13_xints_6 kq_15_xspan_62 rfl) rfl rfl rfl (by decide +kernel) ⟨Nat.le_of_ble_eq_true rfl, Nat.le_of_ble_eq_true rfl⟩) ⟨kx_blind, va_recv hK hPc (ci := 1) (q0 := 0) rfl rfl, kx_give (ws := []) (tys := []) hPc hDc hK hG hZ hS hFc⟩ rfl rfl hl.1 rfl (lv_room (Nat.le_of_ble_eq_true rfl)) dX3_sinkLast_34 ⟨show 0 + 0 ≤ 0 from (by omega), show 0 + 0 ≤ 0 from (by omega)⟩) hS (fun q _ h => hFc q h) hFc (fun u dn_10 dm_11 t H locs ht hvm hq_9 hB hk1 hS => ?_)
          obtain ⟨F_12, rfl⟩ : ∃ z, z = u := ⟨_, rfl⟩
          obtain ⟨hP1, hK1, hD1⟩ := hB
          rw [ht] at hP1
          obtain ⟨hP, hD⟩ := xj (wr := [(o0, .inr (3, [.ref o1, .ref o2, .ref o3])), (o2, .inr (1, [.int (iz L), .ref r2, .int (iz z2)])), (r2, .inl (cI, n2, .inl (iA G2))), (o3, .inr (1, [.int (iz L), .ref r3, .int (iz z3)])), (r3, .inl (cI, n3, .inl (iA G3)))]) (w1 := (iU cI L o1 r1 n1 z1 F_12)) (ws' := (sU cI L o0 o1 o2 o3 r1 r2 r3 n1 n2 n3 z1 z2 z3 F_12 G2 G3)) hP hD [1, 2] [0, 3, 4, 5, 6] [0, 5, 6, 1, 2, 3, 4] rfl rfl (by decide) (by decide) hk1 hFc hP1 hD1 rfl (by decide)
          refine W.eq (g2 := F0 m 37 ls []) rfl ?_
          try dsimp only at hq_9
          obtain ⟨hd1, hm1, hg1⟩ := hq_9
          subst hd1
          subst hm1
          refine lv_aload_n hx hb dX3_sinkLast_37 rfl (lv_at hl 1 rfl) ?_
          refine va_get (D := (dC, dI)) (ci := 3) (v := .ref o2) (C := RX3) (T := TX3) (N := 3) hx hb hts kt_X3 hown hK hP 0 rfl rfl 1 (by decide) (kx_word hG kq_15_xspan_39 rfl) (fun _ h9 => h9) rfl dX3_sinkLast_38 ?_
          refine lv_iload_n hx hb dX3_sinkLast_41 rfl (lv_at hl 0 rfl) ?_
          refine lv_iload_n hx hb dX3_sinkLast_42 rfl (lv_at hl 0 rfl) ?_
          refine lv_iconst (v := iz 1) hx hb dX3_sinkLast_43 (by decide) ?_
          refine ki_isub hx hb dX3_sinkLast_44 ?_
          have hPc := hP.sub (ws' := (iU cI L o2 r2 n2 z2 G2)) [3, 4] rfl
          have hDc := hD.sub (ws' := (iU cI L o2 r2 n2 z2 G2)) [3, 4] (by decide) rfl
          have hFc := va_free (wc := (iU cI L o2 r2 n2 z2 G2)) hD hS hA [3, 4] rfl
          refine xk_call (va_runV (As := [.int (iz k), .int (iz (k - 1))]) (rest := []) ⟨hx, hb, hml, hown, hts⟩ (x_swap l dC dI cI cB cE L o2 r2 n2 z2 G2 k (k - 1) H.size hok2 hv2 (by omega) (by omega) (by omega) (by omega)) (cwV 2 hts (kx_gV kq_15_xspan_59 kq_15_xspan_60 kq_15_xspan_61 kq_13_xints_6 kq_15_xspan_62 rfl) rfl rfl rfl (by decide +kernel) ⟨Nat.le_of_ble_eq_true rfl, Nat.le_of_ble_eq_true rfl⟩) ⟨kx_blind, va_recv hK hPc (ci := 1) (q0 := 0) rfl rfl, kx_give (ws := []) (tys := []) hPc hDc hK hG hZ hS hFc⟩ rfl rfl hl.1 rfl (lv_room (Nat.le_of_ble_eq_true rfl)) dX3_sinkLast_45 ⟨show (0 + 0) + 0 ≤ 0 from (by omega), show (0 + 0) + 0 ≤ 0 from (by omega)⟩) hS (fun q _ h => hFc q h) hFc (fun u dn_14 dm_15 t H locs ht hvm hq_13 hB hk1 hS => ?_)
          obtain ⟨F_16, rfl⟩ : ∃ z, z = u := ⟨_, rfl⟩
          obtain ⟨hP1, hK1, hD1⟩ := hB
          rw [ht] at hP1
          obtain ⟨hP, hD⟩ := xj (wr := [(o0, .inr (3, [.ref o1, .ref o2, .ref o3])), (o1, .inr (1, [.int (iz L), .ref r1, .int (iz z1)])), (r1, .inl (cI, n1, .inl (iA F_12))), (o3, .inr (1, [.int (iz L), .ref r3, .int (iz z3)])), (r3, .inl (cI, n3, .inl (iA G3)))]) (w1 := (iU cI L o2 r2 n2 z2 F_16)) (ws' := (sU cI L o0 o1 o2 o3 r1 r2 r3 n1 n2 n3 z1 z2 z3 F_12 F_16 G3)) hP hD [3, 4] [0, 1, 2, 5, 6] [0, 1, 2, 5, 6, 3, 4] rfl rfl (by decide) (by decide) hk1 hFc hP1 hD1 rfl (by decide)
          refine W.eq (g2 := F0 m 48 ls []) rfl ?_
          try dsimp only at hq_13
          obtain ⟨hd2, hm2, hg2⟩ := hq_13
          subst hd2
          subst hm2
          refine lv_aload_n hx hb dX3_sinkLast_48 rfl (lv_at hl 1 rfl) ?_
          refine va_get (D := (dC, dI)) (ci := 3) (v := .ref o3) (C := RX3) (T := TX3) (N := 3) hx hb hts kt_X3 hown hK hP 0 rfl rfl 2 (by decide) (kx_word hG kq_15_xspan_40 rfl) (fun _ h9 => h9) rfl dX3_sinkLast_49 ?_
          refine lv_iload_n hx hb dX3_sinkLast_52 rfl (lv_at hl 0 rfl) ?_
          refine lv_iload_n hx hb dX3_sinkLast_53 rfl (lv_at hl 0 rfl) ?_
          refine lv_iconst (v := iz 1) hx hb dX3_sinkLast_54 (by decide) ?_
          refine ki_isub hx hb dX3_sinkLast_55 ?_
          have hPc := hP.sub (ws' := (iU cI L o3 r3 n3 z3 G3)) [5, 6] rfl
          have hDc := hD.sub (ws' := (iU cI L o3 r3 n3 z3 G3)) [5, 6] (by decide) rfl
          have hFc := va_free (wc := (iU cI L o3 r3 n3 z3 G3)) hD hS hA [5, 6] rfl
          refine xk_call (va_runV (As := [.int (iz k), .int (iz (k - 1))]) (rest := []) ⟨hx, hb, hml, hown, hts⟩ (x_swap l dC dI cI cB cE L o3 r3 n3 z3 G3 k (k - 1) H.size hok3 hv3 (by omega) (by omega) (by omega) (by omega)) (cwV 2 hts (kx_gV kq_15_xspan_59 kq_15_xspan_60 kq_15_xspan_61 kq_13_xints_6 kq_15_xspan_62 rfl) rfl rfl rfl (by decide +kernel) ⟨Nat.le_of_ble_eq_true rfl, Nat.le_of_ble_eq_true rfl⟩) ⟨kx_blind, va_recv hK hPc (ci := 1) (q0 := 0) rfl rfl, kx_give (ws := []) (tys := []) hPc hDc hK hG hZ hS hFc⟩ rfl rfl hl.1 rfl (lv_room (Nat.le_of_ble_eq_true rfl)) dX3_sinkLast_56 ⟨show ((0 + 0) + 0) + 0 ≤ 0 from (by omega), show ((0 + 0) + 0) + 0 ≤ 0 from (by omega)⟩) hS (fun q _ h => hFc q h) hFc (fun u dn_18 dm_19 t H locs ht hvm hq_17 hB hk1 hS => ?_)
          obtain ⟨F_20, rfl⟩ : ∃ z, z = u := ⟨_, rfl⟩
          obtain ⟨hP1, hK1, hD1⟩ := hB
          rw [ht] at hP1
          obtain ⟨hP, hD⟩ := xj (wr := [(o0, .inr (3, [.ref o1, .ref o2, .ref o3])), (o1, .inr (1, [.int (iz L), .ref r1, .int (iz z1)])), (r1, .inl (cI, n1, .inl (iA F_12))), (o2, .inr (1, [.int (iz L), .ref r2, .int (iz z2)])), (r2, .inl (cI, n2, .inl (iA F_16)))]) (w1 := (iU cI L o3 r3 n3 z3 F_20)) (ws' := (sU cI L o0 o1 o2 o3 r1 r2 r3 n1 n2 n3 z1 z2 z3 F_12 F_16 F_20)) hP hD [5, 6] [0, 1, 2, 3, 4] [0, 1, 2, 3, 4, 5, 6] rfl rfl (by decide) (by decide) hk1 hFc hP1 hD1 rfl (by decide)
          refine W.eq (g2 := F0 m 59 ls []) rfl ?_
          try dsimp only at hq_17
          obtain ⟨hd3, hm3, hg3⟩ := hq_17
          subst hd3
          subst hm3
          refine lv_iinc (v := iz (k + (-1))) (lv' := [(1, .int (iz (k + (-1)))), (0, .ref o0)]) hx hb dX3_sinkLast_59 hl (k := 0) rfl (iz_add k (-1)) (by decide) rfl (fun ls hl => ?_)
          refine lv_goto (tgt := 7) hx hb dX3_sinkLast_62 (by decide) ?_
          exact ih7 (k + (-1)) F_12 F_16 F_20 ⟨by omega, hg1, hg2, hg3⟩ (by omega) _ _ hP hD hS ls (lv_sub hl [0, 1] rfl)
  exact lp7 _ (z1 - 1) F1 F2 F3 ⟨by omega, hF1, hF2, hF3⟩ (Nat.lt_succ_self _) _ _ hP hD hS ls (lv_sub hl [0, 1] rfl)
set_option maxHeartbeats 4000000 in
set_option maxRecDepth 100000 in
theorem x_sall (l : Launch) (dC : Nat → ClassId) (dI : Nat → Nat → Nat) (cI cB cE : ClassId) (L : Int) (o0 : Nat) (o1 : Nat) (o2 : Nat) (o3 : Nat) (r1 : Nat) (r2 : Nat) (r3 : Nat) (n1 : Nat) (n2 : Nat) (n3 : Nat) (z1 : Int) (z2 : Int) (z3 : Int) (F1 : Int → Int) (F2 : Int → Int) (F3 : Int → Int) (Lb : Int) (o0b : Nat) (o1b : Nat) (o2b : Nat) (o3b : Nat) (r1b : Nat) (r2b : Nat) (r3b : Nat) (n1b : Nat) (n2b : Nat) (n3b : Nat) (z1b : Int) (z2b : Int) (z3b : Int) (F1b : Int → Int) (F2b : Int → Int) (F3b : Int → Int) (sz : Nat) (hok1 : 0 ≤ z1 ∧ z1 ≤ (n1 : Int) ∧ (n1 : Int) ≤ L ∧ L ≤ 1600) (hF1 : iB F1) (hok2 : 0 ≤ z2 ∧ z2 ≤ (n2 : Int) ∧ (n2 : Int) ≤ L ∧ L ≤ 1600) (hF2 : iB F2) (hok3 : 0 ≤ z3 ∧ z3 ≤ (n3 : Int) ∧ (n3 : Int) ≤ L ∧ L ≤ 1600) (hF3 : iB F3) (hok1b : 0 ≤ z1b ∧ z1b ≤ (n1b : Int) ∧ (n1b : Int) ≤ Lb ∧ Lb ≤ 1600) (hF1b : iB F1b) (hok2b : 0 ≤ z2b ∧ z2b ≤ (n2b : Int) ∧ (n2b : Int) ≤ Lb ∧ Lb ≤ 1600) (hF2b : iB F2b) (hok3b : 0 ≤ z3b ∧ z3b ≤ (n3b : Int) ∧ (n3b : Int) ≤ Lb ∧ Lb ≤ 1600) (hF3b : iB F3b) : Met l yX3_addAllInOrder [.code yX3_addAllInOrder cX3_addAllInOrder 3 none] ({ frames := 4, cells := 30, slots := 19200, locals := 126 }) (va_Pc [.ref o0, .ref o0b] (kx_Pre dC dI ((sU cI L o0 o1 o2 o3 r1 r2 r3 n1 n2 n3 z1 z2 z3 F1 F2 F3) ++ (sU cI Lb o0b o1b o2b o3b r1b r2b r3b n1b n2b n3b z1b z2b z3b F1b F2b F3b)) (xT cI cB cE) sz)) (xQ (fun _ : Nat × Nat × Int × (Int → Int) × Nat × Nat × Int × (Int → Int) × Nat × Nat × Int × (Int → Int) => none) (fun (u : Nat × Nat × Int × (Int → Int) × Nat × Nat × Int × (Int → Int) × Nat × Nat × Int × (Int → Int)) (dn dm : Nat) => match u with | (r1', n1', z1', F1', r2', n2', z2', F2', r3', n3', z3', F3') => (0 ≤ z1' ∧ z1' ≤ (n1' : Int) ∧ (n1' : Int) ≤ L) ∧ iB F1' ∧ (0 ≤ z2' ∧ z2' ≤ (n2' : Int) ∧ (n2' : Int) ≤ L) ∧ iB F2' ∧ (0 ≤ z3' ∧ z3' ≤ (n3' : Int) ∧ (n3' : Int) ≤ L) ∧ iB F3' ∧ (dn + psg L n1' + psg L n2' + psg L n3' ≤ psg L n1 + psg L n2 + psg L n3 ∧ dm + psj L n1' + psj L n2' + psj L n3' ≤ psj L n1 + psj L n2 + psj L n3)) (fun u t => kx_At dC dI (va_A ((sU cI L o0 o1 o2 o3 r1 r2 r3 n1 n2 n3 z1 z2 z3 F1 F2 F3) ++ (sU cI Lb o0b o1b o2b o3b r1b r2b r3b n1b n2b n3b z1b z2b z3b F1b F2b F3b)) sz) ((fun u : Nat × Nat × Int × (Int → Int) × Nat × Nat × Int × (Int → Int) × Nat × Nat × Int × (Int → Int) => match u with | (r1', n1', z1', F1', r2', n2', z2', F2', r3', n3', z3', F3') => ((sU cI L o0 o1 o2 o3 r1' r2' r3' n1' n2' n3' z1' z2' z3' F1' F2' F3') ++ (sU cI Lb o0b o1b o2b o3b r1b r2b r3b n1b n2b n3b z1b z2b z3b F1b F2b F3b))) u) (xT cI cB cE) t) (va_A ((sU cI L o0 o1 o2 o3 r1 r2 r3 n1 n2 n3 z1 z2 z3 F1 F2 F3) ++ (sU cI Lb o0b o1b o2b o3b r1b r2b r3b n1b n2b n3b z1b z2b z3b F1b F2b F3b)) sz)) 30 19200 (va_A ((sU cI L o0 o1 o2 o3 r1 r2 r3 n1 n2 n3 z1 z2 z3 F1 F2 F3) ++ (sU cI Lb o0b o1b o2b o3b r1b r2b r3b n1b n2b n3b z1b z2b z3b F1b F2b F3b)) sz) := by
  refine Met.ofW (cc := cX3_addAllInOrder) (maxL := 3) (ret := none) (by decide) rfl ?_
  intro p e s m args below meth c s₁ B hml hv
  obtain ⟨rfl, hsz, hP, hK, hD0, hG, hZ⟩ := hv
  have hx := B.exec
  have hb := B.bytes
  have hr := B.returns
  have hts := kx_hts (a := ([.ref o0, .ref o0b] : List Value).toArray) hG
  have hown : s.vm.findClass RX3 = some m.cls := findClass_of_methodNamed B.named
  have hlocks := B.notSynchronized
  subst hsz
  have hD := hD0.self (sz := s.heap.size)
  generalize hAe : va_A ((sU cI L o0 o1 o2 o3 r1 r2 r3 n1 n2 n3 z1 z2 z3 F1 F2 F3) ++ (sU cI Lb o0b o1b o2b o3b r1b r2b r3b n1b n2b n3b z1b z2b z3b F1b F2b F3b)) s.heap.size = A at hD hZ ⊢
  have hA : ∀ q : Nat, s.heap.size ≤ q → A q := fun q h => by rw [← hAe]; exact Or.inr h
  have hS : va_S A s.heap s.heap [] := va_S.rf
  have hl := lv_entry ([.ref o0, .ref o0b]) (n := 3) (Nat.le_of_ble_eq_true rfl)
  rw [lg_entry_eq]
  generalize (lg_sl ([.ref o0, .ref o0b]) ++ List.replicate (3 - (lg_sl ([.ref o0, .ref o0b])).length) Slot.unset).toArray = ls at hl ⊢
  have hl : lv_has ls 3 [(0, .ref o0), (1, .ref o0b)] := hl
  generalize hQe : MQ below (xQ (fun _ : Nat × Nat × Int × (Int → Int) × Nat × Nat × Int × (Int → Int) × Nat × Nat × Int × (Int → Int) => none) (fun (u : Nat × Nat × Int × (Int → Int) × Nat × Nat × Int × (Int → Int) × Nat × Nat × Int × (Int → Int)) (dn dm : Nat) => match u with | (r1', n1', z1', F1', r2', n2', z2', F2', r3', n3', z3', F3') => (0 ≤ z1' ∧ z1' ≤ (n1' : Int) ∧ (n1' : Int) ≤ L) ∧ iB F1' ∧ (0 ≤ z2' ∧ z2' ≤ (n2' : Int) ∧ (n2' : Int) ≤ L) ∧ iB F2' ∧ (0 ≤ z3' ∧ z3' ≤ (n3' : Int) ∧ (n3' : Int) ≤ L) ∧ iB F3' ∧ (dn + psg L n1' + psg L n2' + psg L n3' ≤ psg L n1 + psg L n2 + psg L n3 ∧ dm + psj L n1' + psj L n2' + psj L n3' ≤ psj L n1 + psj L n2 + psj L n3)) (fun u t => kx_At dC dI A ((fun u : Nat × Nat × Int × (Int → Int) × Nat × Nat × Int × (Int → Int) × Nat × Nat × Int × (Int → Int) => match u with | (r1', n1', z1', F1', r2', n2', z2', F2', r3', n3', z3', F3') => ((sU cI L o0 o1 o2 o3 r1' r2' r3' n1' n2' n3' z1' z2' z3' F1' F2' F3') ++ (sU cI Lb o0b o1b o2b o3b r1b r2b r3b n1b n2b n3b z1b z2b z3b F1b F2b F3b))) u) (xT cI cB cE) t) A) ([.ref o0, .ref o0b] : List Value).toArray s 30 19200 A = QQ
  refine lv_iconst (v := iz 0) hx hb dX3_addAllInOrder_0 (by decide) ?_
  refine lv_istore_n (lv' := [(2, .int (iz 0)), (0, .ref o0), (1, .ref o0b)]) hx hb dX3_addAllInOrder_1 rfl hl (by decide) rfl (fun ls hl => ?_)
  have lp2 : ∀ (n0 : Nat) (k : Int) (rr1 : Nat) (m1 : Nat) (y1 : Int) (G1 : Int → Int) (rr2 : Nat) (m2 : Nat) (y2 : Int) (G2 : Int → Int) (rr3 : Nat) (m3 : Nat) (y3 : Int) (G3 : Int → Int) (cv : Nat) (sv : Nat), ((0 ≤ k ∧ k ≤ z1b) ∧ (0 ≤ y1 ∧ y1 ≤ (m1 : Int) ∧ (m1 : Int) ≤ L) ∧ (0 ≤ y2 ∧ y2 ≤ (m2 : Int) ∧ (m2 : Int) ≤ L) ∧ (0 ≤ y3 ∧ y3 ≤ (m3 : Int) ∧ (m3 : Int) ≤ L) ∧ (iB G1) ∧ (iB G2) ∧ (iB G3) ∧ (cv + psg L m1 + psg L m2 + psg L m3 ≤ psg L n1 + psg L n2 + psg L n3 ∧ sv + psj L m1 + psj L m2 + psj L m3 ≤ psj L n1 + psj L n2 + psj L n3)) → (z1b - k).toNat < n0 → ∀ (H : Heap) (locs : List Loc), va_P (dC, dI) kxCl ((sU cI L o0 o1 o2 o3 rr1 rr2 rr3 m1 m2 m3 y1 y2 y3 G1 G2 G3) ++ (sU cI Lb o0b o1b o2b o3b r1b r2b r3b n1b n2b n3b z1b z2b z3b F1b F2b F3b)) H → va_D A ((sU cI L o0 o1 o2 o3 rr1 rr2 rr3 m1 m2 m3 y1 y2 y3 G1 G2 G3) ++ (sU cI Lb o0b o1b o2b o3b r1b r2b r3b n1b n2b n3b z1b z2b z3b F1b F2b F3b)) → va_S A s.heap H locs → ∀ ls : Array Slot, lv_has ls 3 [(2, .int (iz k)), (0, .ref o0), (1, .ref o0b)] → W p l e (headSpec [.code yX3_addAllInOrder cX3_addAllInOrder 3 none] ({ frames := 4, cells := 30, slots := 19200, locals := 126 })).room s m ([.ref o0, .ref o0b] : List Value).toArray below meth c H locs cv sv QQ (F0 m 2 ls []) := by
    intro n0
    induction n0 with
    | zero => intro k rr1 m1 y1 G1 rr2 m2 y2 G2 rr3 m3 y3 G3 cv sv hinv hm0; exact absurd hm0 (Nat.not_lt_zero _)
    | succ n0 ih2 =>
      intro k rr1 m1 y1 G1 rr2 m2 y2 G2 rr3 m3 y3 G3 cv sv hinv hm0 H locs hP hD hS ls hl
      obtain ⟨hk, hv1, hv2, hv3, hw1, hw2, hw3, hcv⟩ := hinv
      have hp1 := psg_le L n1
      have hp2 := psg_le L n2
      have hp3 := psg_le L n3
      have hq1 := psj_le (L := L) (by omega) n1
      have hq2 := psj_le (L := L) (by omega) n2
      have hq3 := psj_le (L := L) (by omega) n3
      refine lv_iload_n hx hb dX3_addAllInOrder_2 rfl (lv_at hl 0 rfl) ?_
      refine lv_aload_n hx hb dX3_addAllInOrder_3 rfl (lv_at hl 2 rfl) ?_
      have hPc := hP.sub (ws' := (sU cI Lb o0b o1b o2b o3b r1b r2b r3b n1b n2b n3b z1b z2b z3b F1b F2b F3b)) [7, 8, 9, 10, 11, 12, 13] rfl
      refine xk_pure (va_runV (As := []) (rest := [.int (iz k)]) ⟨hx, hb, hml, hown, hts⟩ (x_ssize l dC dI cI cB cE Lb o0b o1b o2b o3b r1b r2b r3b n1b n2b n3b z1b z2b z3b F1b F2b F3b  H.size ) (cwV 0 hts (kx_gV kq_15_xspan_50 kq_15_xspan_51 kq_15_xspan_52 kq_15_xspan_53 kq_15_xspan_54 rfl) rfl rfl rfl (by decide +kernel) ⟨Nat.le_of_ble_eq_true rfl, Nat.le_of_ble_eq_true rfl⟩) ⟨pPre_blind, va_recv hK hPc (ci := 3) (q0 := 0) rfl rfl, pPre_give hPc hK hG⟩ rfl rfl hl.1 rfl (lv_room (Nat.le_of_ble_eq_true rfl)) dX3_addAllInOrder_4 ⟨show cv + 0 ≤ 30 from (by omega), show sv + 0 ≤ 19200 from (by omega)⟩) hS (fun z_2 locs hq_1 hS => ?_)
      refine W.eq (g2 := F0 m 7 ls [.int (iz z_2), .int (iz k)]) rfl ?_
      try dsimp only at hq_1
      have hq_1 := hq_1.symm
      subst hq_1
      refine ki_icmp_ge (tgt := 39) hx hb dX3_addAllInOrder_7 (by decide) (by omega) (by omega) (by omega) (by omega) (fun c_3 => ?_) (fun c_3 => ?_)
      · skip
        rw [← hQe]
        exact xk_vret (ov := (fun _ : Nat × Nat × Int × (Int → Int) × Nat × Nat × Int × (Int → Int) × Nat × Nat × Int × (Int → Int) => none)) (post := (fun (u : Nat × Nat × Int × (Int → Int) × Nat × Nat × Int × (Int → Int) × Nat × Nat × Int × (Int → Int)) (dn dm : Nat) => match u with | (r1', n1', z1', F1', r2', n2', z2', F2', r3', n3', z3', F3') => (0 ≤ z1' ∧ z1' ≤ (n1' : Int) ∧ (n1' : Int) ≤ L) ∧ iB F1' ∧ (0 ≤ z2' ∧ z2' ≤ (n2' : Int) ∧ (n2' : Int) ≤ L) ∧ iB F2' ∧ (0 ≤ z3' ∧ z3' ≤ (n3' : Int) ∧ (n3' : Int) ≤ L) ∧ iB F3' ∧ (dn + psg L n1' + psg L n2' + psg L n3' ≤ psg L n1 + psg L n2 + psg L n3 ∧ dm + psj L n1' + psj L n2' + psj L n3' ≤ psj L n1 + psj L n2 + psj L n3))) (ws := (fun u : Nat × Nat × Int × (Int → Int) × Nat × Nat × Int × (Int → Int) × Nat × Nat × Int × (Int → Int) => match u with | (r1', n1', z1', F1', r2', n2', z2', F2', r3', n3', z3', F3') => ((sU cI L o0 o1 o2 o3 r1' r2' r3' n1' n2' n3' z1' z2' z3' F1' F2' F3') ++ (sU cI Lb o0b o1b o2b o3b r1b r2b r3b n1b n2b n3b z1b z2b z3b F1b F2b F3b)))) (tys := xT cI cB cE) (rr1, m1, y1, G1, rr2, m2, y2, G2, rr3, m3, y3, G3) hx hb hr hlocks rfl hP hD hK hS dX3_addAllInOrder_39 (fun dn dm hdn hdm => ⟨by omega, hw1, by omega, hw2, by omega, hw3, by omega⟩) (by omega) (by omega)
      · skip
        refine lv_aload_n hx hb dX3_addAllInOrder_10 rfl (lv_at hl 1 rfl) ?_
        refine lv_aload_n hx hb dX3_addAllInOrder_11 rfl (lv_at hl 2 rfl) ?_
        refine lv_iload_n hx hb dX3_addAllInOrder_12 rfl (lv_at hl 0 rfl) ?_
        have hPc := hP.sub (ws' := (sU cI Lb o0b o1b o2b o3b r1b r2b r3b n1b n2b n3b z1b z2b z3b F1b F2b F3b)) [7, 8, 9, 10, 11, 12, 13] rfl
        refine xk_pure (va_runV (As := [.int (iz k)]) (rest := [.ref o0]) ⟨hx, hb, hml, hown, hts⟩ (x_sfrom l dC dI cI cB cE Lb o0b o1b o2b o3b r1b r2b r3b n1b n2b n3b z1b z2b z3b F1b F2b F3b k H.size hok1b hF1b hok2b hF2b hok3b hF3b (by omega) (by omega)) (cwV 1 hts (kx_gV kq_15_xspan_55 kq_15_xspan_56 kq_15_xspan_57 kq_15_xspan_53 kq_15_xspan_58 rfl) rfl rfl rfl (by decide +kernel) ⟨Nat.le_of_ble_eq_true rfl, Nat.le_of_ble_eq_true rfl⟩) ⟨pPre_blind, va_recv hK hPc (ci := 3) (q0 := 0) rfl rfl, pPre_give hPc hK hG⟩ rfl rfl hl.1 rfl (lv_room (Nat.le_of_ble_eq_true rfl)) dX3_addAllInOrder_13 ⟨show cv + 0 ≤ 30 from (by omega), show sv + 0 ≤ 19200 from (by omega)⟩) hS (fun z_5 locs hq_4 hS => ?_)
        refine W.eq (g2 := F0 m 16 ls [.int (iz z_5), .ref o0]) rfl ?_
        try dsimp only at hq_4
        refine lv_aload_n hx hb dX3_addAllInOrder_16 rfl (lv_at hl 2 rfl) ?_
        refine lv_iload_n hx hb dX3_addAllInOrder_17 rfl (lv_at hl 0 rfl) ?_
        have hPc := hP.sub (ws' := (sU cI Lb o0b o1b o2b o3b r1b r2b r3b n1b n2b n3b z1b z2b z3b F1b F2b F3b)) [7, 8, 9, 10, 11, 12, 13] rfl
        refine xk_pure (va_runV (As := [.int (iz k)]) (rest := [.int (iz z_5), .ref o0]) ⟨hx, hb, hml, hown, hts⟩ (x_sto l dC dI cI cB cE Lb o0b o1b o2b o3b r1b r2b r3b n1b n2b n3b z1b z2b z3b F1b F2b F3b k H.size hok1b hF1b hok2b hF2b hok3b hF3b (by omega) (by omega)) (cwV 1 hts (kx_gV kq_15_xspan_63 kq_15_xspan_64 kq_15_xspan_65 kq_15_xspan_53 kq_15_xspan_66 rfl) rfl rfl rfl (by decide +kernel) ⟨Nat.le_of_ble_eq_true rfl, Nat.le_of_ble_eq_true rfl⟩) ⟨pPre_blind, va_recv hK hPc (ci := 3) (q0 := 0) rfl rfl, pPre_give hPc hK hG⟩ rfl rfl hl.1 rfl (lv_room (Nat.le_of_ble_eq_true rfl)) dX3_addAllInOrder_18 ⟨show cv + 0 ≤ 30 from (by omega), show sv + 0 ≤ 19200 from (by omega)⟩) hS (fun z_7 locs hq_6 hS => ?_)
        refine W.eq (g2 := F0 m 21 ls [.int (iz z_7), .int (iz z_5), .ref o0]) rfl ?_
        try dsimp only at hq_6
        refine lv_aload_n hx hb dX3_addAllInOrder_21 rfl (lv_at hl 2 rfl) ?_
        refine lv_iload_n hx hb dX3_addAllInOrder_22 rfl (lv_at hl 0 rfl) ?_
        have hPc := hP.sub (ws' := (sU cI Lb o0b o1b o2b o3b r1b r2b r3b n1b n2b n3b z1b z2b z3b F1b F2b F3b)) [7, 8, 9, 10, 11, 12, 13] rfl
        refine xk_pure (va_runV (As := [.int (iz k)]) (rest := [.int (iz z_7), .int (iz z_5), .ref o0]) ⟨hx, hb, hml, hown, hts⟩ (x_stold l dC dI cI cB cE Lb o0b o1b o2b o3b r1b r2b r3b n1b n2b n3b z1b z2b z3b F1b F2b F3b k H.size hok1b hF1b hok2b hF2b hok3b hF3b (by omega) (by omega)) (cwV 1 hts (kx_gV kq_15_xspan_67 kq_15_xspan_68 kq_15_xspan_69 kq_15_xspan_53 kq_15_xspan_70 rfl) rfl rfl rfl (by decide +kernel) ⟨Nat.le_of_ble_eq_true rfl, Nat.le_of_ble_eq_true rfl⟩) ⟨pPre_blind, va_recv hK hPc (ci := 3) (q0 := 0) rfl rfl, pPre_give hPc hK hG⟩ rfl rfl hl.1 rfl (lv_room (Nat.le_of_ble_eq_true rfl)) dX3_addAllInOrder_23 ⟨show cv + 0 ≤ 30 from (by omega), show sv + 0 ≤ 19200 from (by omega)⟩) hS (fun z_9 locs hq_8 hS => ?_)
        refine W.eq (g2 := F0 m 26 ls [.int (iz z_9), .int (iz z_7), .int (iz z_5), .ref o0]) rfl ?_
        try dsimp only at hq_8
        have hPc := hP.sub (ws' := (sU cI L o0 o1 o2 o3 rr1 rr2 rr3 m1 m2 m3 y1 y2 y3 G1 G2 G3)) [0, 1, 2, 3, 4, 5, 6] rfl
        have hDc := hD.sub (ws' := (sU cI L o0 o1 o2 o3 rr1 rr2 rr3 m1 m2 m3 y1 y2 y3 G1 G2 G3)) [0, 1, 2, 3, 4, 5, 6] (by decide) rfl
        have hFc := va_free (wc := (sU cI L o0 o1 o2 o3 rr1 rr2 rr3 m1 m2 m3 y1 y2 y3 G1 G2 G3)) hD hS hA [0, 1, 2, 3, 4, 5, 6] rfl
        refine xk_call (va_runV (As := [.int (iz z_5), .int (iz z_7), .int (iz z_9)]) (rest := []) ⟨hx, hb, hml, hown, hts⟩ (x_sadd l dC dI cI cB cE L o0 o1 o2 o3 rr1 rr2 rr3 m1 m2 m3 y1 y2 y3 G1 G2 G3 z_5 z_7 z_9 H.size (by omega) hw1 (by omega) hw2 (by omega) hw3 (by omega) (by omega) (by omega) (by omega) (by omega)) (cwV 3 hts (kx_gV kq_15_xspan_71 kq_15_xspan_72 kq_15_xspan_73 kq_15_xspan_53 kq_15_xspan_74 rfl) rfl rfl rfl (by decide +kernel) ⟨Nat.le_of_ble_eq_true rfl, Nat.le_of_ble_eq_true rfl⟩) ⟨kx_blind, va_recv hK hPc (ci := 3) (q0 := 0) rfl rfl, kx_give (ws := []) (tys := []) hPc hDc hK hG hZ hS hFc⟩ rfl rfl hl.1 rfl (lv_room (Nat.le_of_ble_eq_true rfl)) dX3_addAllInOrder_26 ⟨show cv + 3 ≤ 30 from (by omega), show sv + 4800 ≤ 19200 from (by omega)⟩) hS (fun q _ h => hFc q h) hFc (fun u dn_11 dm_12 t H locs ht hvm hq_10 hB hk1 hS => ?_)
        obtain ⟨r1_13, n1_14, z1_15, F1_16, r2_17, n2_18, z2_19, F2_20, r3_21, n3_22, z3_23, F3_24⟩ := u
        obtain ⟨hP1, hK1, hD1⟩ := hB
        rw [ht] at hP1
        obtain ⟨hP, hD⟩ := xj (wr := [(o0b, .inr (3, [.ref o1b, .ref o2b, .ref o3b])), (o1b, .inr (1, [.int (iz Lb), .ref r1b, .int (iz z1b)])), (r1b, .inl (cI, n1b, .inl (iA F1b))), (o2b, .inr (1, [.int (iz Lb), .ref r2b, .int (iz z2b)])), (r2b, .inl (cI, n2b, .inl (iA F2b))), (o3b, .inr (1, [.int (iz Lb), .ref r3b, .int (iz z3b)])), (r3b, .inl (cI, n3b, .inl (iA F3b)))]) (w1 := (sU cI L o0 o1 o2 o3 r1_13 r2_17 r3_21 n1_14 n2_18 n3_22 z1_15 z2_19 z3_23 F1_16 F2_20 F3_24)) (ws' := ((sU cI L o0 o1 o2 o3 r1_13 r2_17 r3_21 n1_14 n2_18 n3_22 z1_15 z2_19 z3_23 F1_16 F2_20 F3_24) ++ (sU cI Lb o0b o1b o2b o3b r1b r2b r3b n1b n2b n3b z1b z2b z3b F1b F2b F3b))) hP hD [0, 1, 2, 3, 4, 5, 6] [7, 8, 9, 10, 11, 12, 13] [7, 8, 9, 10, 11, 12, 13, 0, 1, 2, 3, 4, 5, 6] rfl rfl (by decide) (by decide) hk1 hFc hP1 hD1 rfl (by decide)
        refine W.eq (g2 := F0 m 29 ls []) rfl ?_
        try dsimp only at hq_10
        obtain ⟨ha1, hb1, ha2, hb2, ha3, hb3, hc, hd1, hd2, hd3⟩ := hq_10
        refine lv_aload_n hx hb dX3_addAllInOrder_29 rfl (lv_at hl 1 rfl) ?_
        have hPc := hP.sub (ws' := (sU cI L o0 o1 o2 o3 r1_13 r2_17 r3_21 n1_14 n2_18 n3_22 z1_15 z2_19 z3_23 F1_16 F2_20 F3_24)) [0, 1, 2, 3, 4, 5, 6] rfl
        have hDc := hD.sub (ws' := (sU cI L o0 o1 o2 o3 r1_13 r2_17 r3_21 n1_14 n2_18 n3_22 z1_15 z2_19 z3_23 F1_16 F2_20 F3_24)) [0, 1, 2, 3, 4, 5, 6] (by decide) rfl
        have hFc := va_free (wc := (sU cI L o0 o1 o2 o3 r1_13 r2_17 r3_21 n1_14 n2_18 n3_22 z1_15 z2_19 z3_23 F1_16 F2_20 F3_24)) hD hS hA [0, 1, 2, 3, 4, 5, 6] rfl
        refine xk_call (va_runV (As := []) (rest := []) ⟨hx, hb, hml, hown, hts⟩ (x_ssink l dC dI cI cB cE L o0 o1 o2 o3 r1_13 r2_17 r3_21 n1_14 n2_18 n3_22 z1_15 z2_19 z3_23 F1_16 F2_20 F3_24  H.size (by omega) hb1 (by omega) hb2 (by omega) hb3) (cwV 0 hts (kx_gV kq_15_xspan_75 kq_15_xspan_76 kq_15_xspan_77 kq_15_xspan_53 kq_15_xspan_78 rfl) rfl rfl rfl (by decide +kernel) ⟨Nat.le_of_ble_eq_true rfl, Nat.le_of_ble_eq_true rfl⟩) ⟨kx_blind, va_recv hK hPc (ci := 3) (q0 := 0) rfl rfl, kx_give (ws := []) (tys := []) hPc hDc hK hG hZ hS hFc⟩ rfl rfl hl.1 rfl (lv_room (Nat.le_of_ble_eq_true rfl)) dX3_addAllInOrder_30 ⟨show (cv + dn_11) + 0 ≤ 30 from (by omega), show (sv + dm_12) + 0 ≤ 19200 from (by omega)⟩) hS (fun q _ h => hFc q h) hFc (fun u dn_26 dm_27 t H locs ht hvm hq_25 hB hk1 hS => ?_)
        obtain ⟨F1_28, F2_29, F3_30⟩ := u
        obtain ⟨hP1, hK1, hD1⟩ := hB
        rw [ht] at hP1
        obtain ⟨hP, hD⟩ := xj (wr := [(o0b, .inr (3, [.ref o1b, .ref o2b, .ref o3b])), (o1b, .inr (1, [.int (iz Lb), .ref r1b, .int (iz z1b)])), (r1b, .inl (cI, n1b, .inl (iA F1b))), (o2b, .inr (1, [.int (iz Lb), .ref r2b, .int (iz z2b)])), (r2b, .inl (cI, n2b, .inl (iA F2b))), (o3b, .inr (1, [.int (iz Lb), .ref r3b, .int (iz z3b)])), (r3b, .inl (cI, n3b, .inl (iA F3b)))]) (w1 := (sU cI L o0 o1 o2 o3 r1_13 r2_17 r3_21 n1_14 n2_18 n3_22 z1_15 z2_19 z3_23 F1_28 F2_29 F3_30)) (ws' := ((sU cI L o0 o1 o2 o3 r1_13 r2_17 r3_21 n1_14 n2_18 n3_22 z1_15 z2_19 z3_23 F1_28 F2_29 F3_30) ++ (sU cI Lb o0b o1b o2b o3b r1b r2b r3b n1b n2b n3b z1b z2b z3b F1b F2b F3b))) hP hD [0, 1, 2, 3, 4, 5, 6] [7, 8, 9, 10, 11, 12, 13] [7, 8, 9, 10, 11, 12, 13, 0, 1, 2, 3, 4, 5, 6] rfl rfl (by decide) (by decide) hk1 hFc hP1 hD1 rfl (by decide)
        refine W.eq (g2 := F0 m 33 ls []) rfl ?_
        try dsimp only at hq_25
        obtain ⟨hd, hm, hg1, hg2, hg3⟩ := hq_25
        subst hd
        subst hm
        refine lv_iinc (v := iz (k + 1)) (lv' := [(2, .int (iz (k + 1))), (0, .ref o0), (1, .ref o0b)]) hx hb dX3_addAllInOrder_33 hl (k := 0) rfl (iz_add k 1) (by decide) rfl (fun ls hl => ?_)
        refine lv_goto (tgt := 2) hx hb dX3_addAllInOrder_36 (by decide) ?_
        exact ih2 (k + 1) r1_13 n1_14 z1_15 F1_28 r2_17 n2_18 z2_19 F2_29 r3_21 n3_22 z3_23 F3_30 ((cv + dn_11) + 0) ((sv + dm_12) + 0) ⟨by omega, by omega, by omega, by omega, hg1, hg2, hg3, by omega⟩ (by omega) _ _ hP hD hS ls (lv_sub hl [0, 1, 2] rfl)
  exact lp2 _ 0 r1 n1 z1 F1 r2 n2 z2 F2 r3 n3 z3 F3 0 0 ⟨by omega, by omega, by omega, by omega, hF1, hF2, hF3, by omega⟩ (Nat.lt_succ_self _) _ _ hP hD hS ls (lv_sub hl [0, 1, 2] rfl)
