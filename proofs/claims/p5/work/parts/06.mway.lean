/-! the reference: the order of entries, and the rows above them -/
def mLv (I : Nat → Int) (F : Nat → Int → Int) : Prop := ∀ e, 0 ≤ e → e < I 1 → 0 ≤ F 2 e ∧ F 2 e ≤ 2 ∧ (F 2 e = 0 ∨ (0 ≤ F 3 e ∧ F 3 e < e ∧ F 2 (F 3 e) = F 2 e - 1))
def mSm (nn : Int) (F : Nat → Int → Int) : Prop := ∀ e, 0 ≤ e → e < nn → 0 ≤ F 17 e ∧ F 17 e ≤ e ∧ F 2 (F 17 e) = F 2 e
theorem kq_06_mway_0 : (Cond.methodLink RX6 139 yX6_begin) ∈ lw_tbl := by decide +kernel
theorem kq_06_mway_1 : (Cond.instanceMethod yX6_begin) ∈ lw_tbl := by decide +kernel
theorem kq_06_mway_2 : (Cond.selects RX6 yX6_begin yX6_begin) ∈ lw_tbl := by decide +kernel
theorem kq_06_mway_3 : (Cond.code yX6_begin cX6_begin 2 none) ∈ lw_tbl := by decide +kernel
theorem kq_06_mway_4 : (Cond.methodLink RX6 151 yX6_signsDiffer) ∈ lw_tbl := by decide +kernel
theorem kq_06_mway_5 : (Cond.static yX6_signsDiffer) ∈ lw_tbl := by decide +kernel
theorem kq_06_mway_6 : (Cond.code yX6_signsDiffer cX6_signsDiffer 4 (some .int)) ∈ lw_tbl := by decide +kernel
theorem kq_06_mway_7 : (Cond.methodLink RX6 143 yX6_step) ∈ lw_tbl := by decide +kernel
theorem kq_06_mway_8 : (Cond.instanceMethod yX6_step) ∈ lw_tbl := by decide +kernel
theorem kq_06_mway_9 : (Cond.selects RX6 yX6_step yX6_step) ∈ lw_tbl := by decide +kernel
theorem kq_06_mway_10 : (Cond.code yX6_step cX6_step 7 none) ∈ lw_tbl := by decide +kernel
theorem kq_06_mway_11 : (Cond.methodLink RX6 147 yX6_unitsDiffer) ∈ lw_tbl := by decide +kernel
theorem kq_06_mway_12 : (Cond.instanceMethod yX6_unitsDiffer) ∈ lw_tbl := by decide +kernel
theorem kq_06_mway_13 : (Cond.selects RX6 yX6_unitsDiffer yX6_unitsDiffer) ∈ lw_tbl := by decide +kernel
theorem kq_06_mway_14 : (Cond.code yX6_unitsDiffer cX6_unitsDiffer 4 (some .int)) ∈ lw_tbl := by decide +kernel
theorem kq_06_mway_15 : (Cond.fieldLink RX6 54 "IndexSortModel" "same" "[I") ∈ lw_tbl := by decide +kernel
theorem kq_06_mway_16 : (Cond.methodLink RX6 155 yX6_wayOf) ∈ lw_tbl := by decide +kernel
theorem kq_06_mway_17 : (Cond.instanceMethod yX6_wayOf) ∈ lw_tbl := by decide +kernel
theorem kq_06_mway_18 : (Cond.selects RX6 yX6_wayOf yX6_wayOf) ∈ lw_tbl := by decide +kernel
theorem kq_06_mway_19 : (Cond.code yX6_wayOf cX6_wayOf 4 (some .int)) ∈ lw_tbl := by decide +kernel
theorem kq_06_mway_20 : (Cond.methodLink RX6 158 yX6_orderOf) ∈ lw_tbl := by decide +kernel
theorem kq_06_mway_21 : (Cond.instanceMethod yX6_orderOf) ∈ lw_tbl := by decide +kernel
theorem kq_06_mway_22 : (Cond.selects RX6 yX6_orderOf yX6_orderOf) ∈ lw_tbl := by decide +kernel
theorem kq_06_mway_23 : (Cond.code yX6_orderOf cX6_orderOf 6 (some .int)) ∈ lw_tbl := by decide +kernel
set_option maxHeartbeats 4000000 in
set_option maxRecDepth 100000 in
/-- orderOf: it ends, and touches the two sides alone -/
theorem k_orderOf (l : Launch) (dC : Nat → ClassId) (dI : Nat → Nat → Nat) (mo : Nat) (ma : Nat → Nat) (cs : Nat → ClassId) (I : Nat → Int) (F : Nat → Int → Int) (p0 : Int) (p1 : Int) (sz : Nat) (hB : mB I F) (h0 : 0 ≤ p0 ∧ p0 < 80) (h1 : 0 ≤ p1 ∧ p1 < 80) (hn : ∀ e, 0 ≤ F 5 e ∧ F 5 e ≤ 20) : mMi l yX6_orderOf (.code yX6_orderOf cX6_orderOf 6 (some .int)) 2 47 dC dI mo ma cs I F [.ref mo, .int (iz p0), .int (iz p1)] sz (fun (r : Int) (I' : Nat → Int) (F' : Nat → Int → Int) => I = I' ∧ mB I F' ∧ mfr [] [20, 21, 22, 23, 24] I F I F' ∧ (-1 ≤ r ∧ r ≤ 1)) := by
  refine Met.ofW (cc := cX6_orderOf) (maxL := 6) (ret := (some .int)) (by decide) rfl ?_
  intro p e s m args below meth c s₁ B hml hv
  obtain ⟨rfl, hsz, hP, hK, hD0, hG, hZ⟩ := hv
  have hx := B.exec
  have hb := B.bytes
  have hr := B.returns
  have hts := kx_hts (a := ([.ref mo, .int (iz p0), .int (iz p1)] : List Value).toArray) hG
  have hown : s.vm.findClass RX6 = some m.cls := findClass_of_methodNamed B.named
  have hlocks := B.notSynchronized
  subst hsz
  have hD := hD0.self (sz := s.heap.size)
  generalize hAe : va_A (mW mo ma cs I F) s.heap.size = A at hD hZ ⊢
  have hA : ∀ q : Nat, s.heap.size ≤ q → A q := fun q h => by rw [← hAe]; exact Or.inr h
  have hS : va_S A s.heap s.heap [] := va_S.rf
  have hl := lv_entry ([.ref mo, .int (iz p0), .int (iz p1)]) (n := 6) (Nat.le_of_ble_eq_true rfl)
  rw [lg_entry_eq]
  generalize (lg_sl ([.ref mo, .int (iz p0), .int (iz p1)]) ++ List.replicate (6 - (lg_sl ([.ref mo, .int (iz p0), .int (iz p1)])).length) Slot.unset).toArray = ls at hl ⊢
  have hl : lv_has ls 6 [(0, .ref mo), (1, .int (iz p0)), (2, .int (iz p1))] := hl
  generalize hQe : MQ below (mQi dC dI mo ma cs A (fun (r : Int) (I' : Nat → Int) (F' : Nat → Int → Int) => I = I' ∧ mB I F' ∧ mfr [] [20, 21, 22, 23, 24] I F I F' ∧ (-1 ≤ r ∧ r ≤ 1))) ([.ref mo, .int (iz p0), .int (iz p1)] : List Value).toArray s 0 0 A = QQ
  have hna := hn p0
  have hnb := hn p1
  refine lv_aload_n hx hb dX6_orderOf_0 rfl (lv_at hl 0 rfl) ?_
  refine lv_iconst (v := iz 0) hx hb dX6_orderOf_1 (by decide) ?_
  refine mk_callv (As := [.int (iz 0)]) (rest := []) ⟨hx, hb, hml, hown, hts⟩ (k_begin l dC dI mo ma cs I F 0 s.heap.size hB (by omega)) (cwV 1 hts (kx_gV kq_06_mway_0 kq_06_mway_1 kq_06_mway_2 kq_04_msmall_6 kq_06_mway_3 rfl) rfl rfl rfl (by decide +kernel) ⟨Nat.le_of_ble_eq_true rfl, Nat.le_of_ble_eq_true rfl⟩) hP hD hK hG hZ hS hA rfl hl.1 rfl (Nat.le_of_ble_eq_true rfl) dX6_orderOf_2 ⟨Nat.le_of_ble_eq_true rfl, Nat.le_of_ble_eq_true rfl⟩ (fun I_3 F_4 H locs hq_2 hP hD hS => ?_)
  try dsimp only at hq_2
  obtain ⟨rfl, rfl⟩ := hq_2
  refine lv_aload_n hx hb dX6_orderOf_5 rfl (lv_at hl 0 rfl) ?_
  refine lv_iconst (v := iz 1) hx hb dX6_orderOf_6 (by decide) ?_
  refine mk_callv (As := [.int (iz 1)]) (rest := []) ⟨hx, hb, hml, hown, hts⟩ (k_begin l dC dI mo ma cs I (va_up (va_up F 20 (upI (F 20) 0 0)) 21 (upI (F 21) 0 (vp_nar .boolean (iz 0)).toInt)) 1 H.size (mB_f (mB_f hB 20 0 (by omega) (by omega)) 21 0 (iz_lo _) (iz_hi _)) (by omega)) (cwV 1 hts (kx_gV kq_06_mway_0 kq_06_mway_1 kq_06_mway_2 kq_04_msmall_6 kq_06_mway_3 rfl) rfl rfl rfl (by decide +kernel) ⟨Nat.le_of_ble_eq_true rfl, Nat.le_of_ble_eq_true rfl⟩) hP hD hK hG hZ hS hA rfl hl.1 rfl (Nat.le_of_ble_eq_true rfl) dX6_orderOf_7 ⟨Nat.le_of_ble_eq_true rfl, Nat.le_of_ble_eq_true rfl⟩ (fun I_7 F_8 H locs hq_6 hP hD hS => ?_)
  try dsimp only at hq_6
  obtain ⟨rfl, rfl⟩ := hq_6
  refine lv_iconst (v := iz 1) hx hb dX6_orderOf_10 (by decide) ?_
  refine lv_istore_n (lv' := [(3, .int (iz 1)), (0, .ref mo), (1, .int (iz p0)), (2, .int (iz p1))]) hx hb dX6_orderOf_11 rfl hl (by decide) rfl (fun ls hl => ?_)
  have lp12 : ∀ (n : Nat) (more : Int) (G : Nat → Int → Int), ((mB I G) ∧ (mfr [] [20, 21, 22, 23, 24] I F I G) ∧ (0 ≤ G 20 0 ∧ G 20 0 ≤ F 5 p0) ∧ (0 ≤ G 20 1 ∧ G 20 1 ≤ F 5 p1) ∧ (more = 0 ∨ more = 1)) → (2 * (F 5 p0 - G 20 0) + more).toNat < n → ∀ (H : Heap) (locs : List Loc), va_P (dC, dI) kxCl (mW mo ma cs I G) H → va_D A (mW mo ma cs I G) → va_S A s.heap H locs → ∀ ls : Array Slot, lv_has ls 6 [(3, .int (iz more)), (0, .ref mo), (1, .int (iz p0)), (2, .int (iz p1))] → W p l e (headSpec [.code yX6_orderOf cX6_orderOf 6 (some .int)] ({ frames := 2, cells := 0, slots := 0, locals := 47 })).room s m ([.ref mo, .int (iz p0), .int (iz p1)] : List Value).toArray below meth c H locs 0 0 QQ (F0 m 12 ls []) := by
    intro n
    induction n with
    | zero => intro more G hinv hm; exact absurd hm (Nat.not_lt_zero _)
    | succ n ih12 =>
      intro more G hinv hm H locs hP hD hS ls hl
      obtain ⟨hBJ, hfJ, hq0, hq1, hmo⟩ := hinv
      have e5a := congrFun (hfJ.2 5 (by decide)) p0
      have e5b := congrFun (hfJ.2 5 (by decide)) p1
      refine lv_iload_n hx hb dX6_orderOf_12 rfl (lv_at hl 0 rfl) ?_
      refine ki_if_eq (tgt := 61) hx hb dX6_orderOf_13 (by decide) (by omega) (by omega) (fun c_9 => ?_) (fun c_9 => ?_)
      · skip
        refine lv_iconst (v := iz 0) hx hb dX6_orderOf_61 (by decide) ?_
        refine lv_istore (lv' := [(4, .int (iz 0)), (3, .int (iz more)), (0, .ref mo), (1, .int (iz p0)), (2, .int (iz p1))]) hx hb dX6_orderOf_62 hl (by decide) rfl (fun ls hl => ?_)
        have lp64 : ∀ (n : Nat) (k : Int), ((0 ≤ k ∧ k ≤ 20)) → (F 5 p0 - k).toNat < n → ∀ (H : Heap) (locs : List Loc), va_P (dC, dI) kxCl (mW mo ma cs I G) H → va_D A (mW mo ma cs I G) → va_S A s.heap H locs → ∀ ls : Array Slot, lv_has ls 6 [(4, .int (iz k)), (3, .int (iz more)), (0, .ref mo), (1, .int (iz p0)), (2, .int (iz p1))] → W p l e (headSpec [.code yX6_orderOf cX6_orderOf 6 (some .int)] ({ frames := 2, cells := 0, slots := 0, locals := 47 })).room s m ([.ref mo, .int (iz p0), .int (iz p1)] : List Value).toArray below meth c H locs 0 0 QQ (F0 m 64 ls []) := by
          intro n
          induction n with
          | zero => intro k hinv hm; exact absurd hm (Nat.not_lt_zero _)
          | succ n ih64 =>
            intro k hinv hm H locs hP hD hS ls hl
            have hk := hinv
            refine lv_iload hx hb dX6_orderOf_64 (lv_at hl 0 rfl) ?_
            refine lv_aload_n hx hb dX6_orderOf_66 rfl (lv_at hl 2 rfl) ?_
            refine va_get (D := (dC, dI)) (ci := 6) (v := .ref (ma 5)) (C := RX6) (T := TX6) (N := 44) hx hb hts kt_X6 hown hK hP 0 rfl rfl 5 (by decide) (kx_word hG kq_04_msmall_15 rfl) (fun _ h9 => h9) rfl dX6_orderOf_67 ?_
            refine lv_iload_n hx hb dX6_orderOf_70 rfl (lv_at hl 3 rfl) ?_
            refine ki_iald (F := G 5) hx hb hK hP 4 3 rfl rfl (by omega) (by omega) (by decide) dX6_orderOf_71 ?_
            have hbd_10 := hBJ.2 5 p0
            refine ki_icmp_ge (tgt := 129) hx hb dX6_orderOf_72 (by decide) (by omega) (by omega) (by omega) (by omega) (fun c_11 => ?_) (fun c_11 => ?_)
            · skip
              refine lv_aload_n hx hb dX6_orderOf_129 rfl (lv_at hl 2 rfl) ?_
              refine va_get (D := (dC, dI)) (ci := 6) (v := .ref (ma 5)) (C := RX6) (T := TX6) (N := 44) hx hb hts kt_X6 hown hK hP 0 rfl rfl 5 (by decide) (kx_word hG kq_04_msmall_15 rfl) (fun _ h9 => h9) rfl dX6_orderOf_130 ?_
              refine lv_iload_n hx hb dX6_orderOf_133 rfl (lv_at hl 3 rfl) ?_
              refine ki_iald (F := G 5) hx hb hK hP 4 3 rfl rfl (by omega) (by omega) (by decide) dX6_orderOf_134 ?_
              refine lv_aload_n hx hb dX6_orderOf_135 rfl (lv_at hl 2 rfl) ?_
              refine va_get (D := (dC, dI)) (ci := 6) (v := .ref (ma 5)) (C := RX6) (T := TX6) (N := 44) hx hb hts kt_X6 hown hK hP 0 rfl rfl 5 (by decide) (kx_word hG kq_04_msmall_15 rfl) (fun _ h9 => h9) rfl dX6_orderOf_136 ?_
              refine lv_iload_n hx hb dX6_orderOf_139 rfl (lv_at hl 4 rfl) ?_
              refine ki_iald (F := G 5) hx hb hK hP 4 3 rfl rfl (by omega) (by omega) (by decide) dX6_orderOf_140 ?_
              have hbd_12 := hBJ.2 5 p1
              refine ki_icmp_ge (tgt := 148) hx hb dX6_orderOf_141 (by decide) (by omega) (by omega) (by omega) (by omega) (fun c_13 => ?_) (fun c_13 => ?_)
              · skip
                refine lv_aload_n hx hb dX6_orderOf_148 rfl (lv_at hl 2 rfl) ?_
                refine va_get (D := (dC, dI)) (ci := 6) (v := .ref (ma 5)) (C := RX6) (T := TX6) (N := 44) hx hb hts kt_X6 hown hK hP 0 rfl rfl 5 (by decide) (kx_word hG kq_04_msmall_15 rfl) (fun _ h9 => h9) rfl dX6_orderOf_149 ?_
                refine lv_iload_n hx hb dX6_orderOf_152 rfl (lv_at hl 3 rfl) ?_
                refine ki_iald (F := G 5) hx hb hK hP 4 3 rfl rfl (by omega) (by omega) (by decide) dX6_orderOf_153 ?_
                refine lv_aload_n hx hb dX6_orderOf_154 rfl (lv_at hl 2 rfl) ?_
                refine va_get (D := (dC, dI)) (ci := 6) (v := .ref (ma 5)) (C := RX6) (T := TX6) (N := 44) hx hb hts kt_X6 hown hK hP 0 rfl rfl 5 (by decide) (kx_word hG kq_04_msmall_15 rfl) (fun _ h9 => h9) rfl dX6_orderOf_155 ?_
                refine lv_iload_n hx hb dX6_orderOf_158 rfl (lv_at hl 4 rfl) ?_
                refine ki_iald (F := G 5) hx hb hK hP 4 3 rfl rfl (by omega) (by omega) (by decide) dX6_orderOf_159 ?_
                refine ki_icmp_le (tgt := 167) hx hb dX6_orderOf_160 (by decide) (by omega) (by omega) (by omega) (by omega) (fun c_14 => ?_) (fun c_14 => ?_)
                · skip
                  refine lv_iconst (v := iz 0) hx hb dX6_orderOf_167 (by decide) ?_
                  rw [← hQe]
                  exact mk_ireti hx hb hr hlocks hP hD hK hS dX6_orderOf_168 (⟨rfl, hBJ, hfJ, by omega⟩)
                · skip
                  refine lv_iconst (v := iz 1) hx hb dX6_orderOf_163 (by decide) ?_
                  refine lv_goto (tgt := 168) hx hb dX6_orderOf_164 (by decide) ?_
                  rw [← hQe]
                  exact mk_ireti hx hb hr hlocks hP hD hK hS dX6_orderOf_168 (⟨rfl, hBJ, hfJ, by omega⟩)
              · skip
                refine lv_iconst (v := iz (-1)) hx hb dX6_orderOf_144 (by decide) ?_
                refine lv_goto (tgt := 168) hx hb dX6_orderOf_145 (by decide) ?_
                rw [← hQe]
                exact mk_ireti hx hb hr hlocks hP hD hK hS dX6_orderOf_168 (⟨rfl, hBJ, hfJ, by omega⟩)
            · skip
              refine lv_iload hx hb dX6_orderOf_75 (lv_at hl 0 rfl) ?_
              refine lv_aload_n hx hb dX6_orderOf_77 rfl (lv_at hl 2 rfl) ?_
              refine va_get (D := (dC, dI)) (ci := 6) (v := .ref (ma 5)) (C := RX6) (T := TX6) (N := 44) hx hb hts kt_X6 hown hK hP 0 rfl rfl 5 (by decide) (kx_word hG kq_04_msmall_15 rfl) (fun _ h9 => h9) rfl dX6_orderOf_78 ?_
              refine lv_iload_n hx hb dX6_orderOf_81 rfl (lv_at hl 4 rfl) ?_
              refine ki_iald (F := G 5) hx hb hK hP 4 3 rfl rfl (by omega) (by omega) (by decide) dX6_orderOf_82 ?_
              have hbd_15 := hBJ.2 5 p1
              refine ki_icmp_ge (tgt := 129) hx hb dX6_orderOf_83 (by decide) (by omega) (by omega) (by omega) (by omega) (fun c_16 => ?_) (fun c_16 => ?_)
              · skip
                refine lv_aload_n hx hb dX6_orderOf_129 rfl (lv_at hl 2 rfl) ?_
                refine va_get (D := (dC, dI)) (ci := 6) (v := .ref (ma 5)) (C := RX6) (T := TX6) (N := 44) hx hb hts kt_X6 hown hK hP 0 rfl rfl 5 (by decide) (kx_word hG kq_04_msmall_15 rfl) (fun _ h9 => h9) rfl dX6_orderOf_130 ?_
                refine lv_iload_n hx hb dX6_orderOf_133 rfl (lv_at hl 3 rfl) ?_
                refine ki_iald (F := G 5) hx hb hK hP 4 3 rfl rfl (by omega) (by omega) (by decide) dX6_orderOf_134 ?_
                refine lv_aload_n hx hb dX6_orderOf_135 rfl (lv_at hl 2 rfl) ?_
                refine va_get (D := (dC, dI)) (ci := 6) (v := .ref (ma 5)) (C := RX6) (T := TX6) (N := 44) hx hb hts kt_X6 hown hK hP 0 rfl rfl 5 (by decide) (kx_word hG kq_04_msmall_15 rfl) (fun _ h9 => h9) rfl dX6_orderOf_136 ?_
                refine lv_iload_n hx hb dX6_orderOf_139 rfl (lv_at hl 4 rfl) ?_
                refine ki_iald (F := G 5) hx hb hK hP 4 3 rfl rfl (by omega) (by omega) (by decide) dX6_orderOf_140 ?_
                refine ki_icmp_ge (tgt := 148) hx hb dX6_orderOf_141 (by decide) (by omega) (by omega) (by omega) (by omega) (fun c_17 => ?_) (fun c_17 => ?_)
                · skip
                  refine lv_aload_n hx hb dX6_orderOf_148 rfl (lv_at hl 2 rfl) ?_
                  refine va_get (D := (dC, dI)) (ci := 6) (v := .ref (ma 5)) (C := RX6) (T := TX6) (N := 44) hx hb hts kt_X6 hown hK hP 0 rfl rfl 5 (by decide) (kx_word hG kq_04_msmall_15 rfl) (fun _ h9 => h9) rfl dX6_orderOf_149 ?_
                  refine lv_iload_n hx hb dX6_orderOf_152 rfl (lv_at hl 3 rfl) ?_
                  refine ki_iald (F := G 5) hx hb hK hP 4 3 rfl rfl (by omega) (by omega) (by decide) dX6_orderOf_153 ?_
                  refine lv_aload_n hx hb dX6_orderOf_154 rfl (lv_at hl 2 rfl) ?_
                  refine va_get (D := (dC, dI)) (ci := 6) (v := .ref (ma 5)) (C := RX6) (T := TX6) (N := 44) hx hb hts kt_X6 hown hK hP 0 rfl rfl 5 (by decide) (kx_word hG kq_04_msmall_15 rfl) (fun _ h9 => h9) rfl dX6_orderOf_155 ?_
                  refine lv_iload_n hx hb dX6_orderOf_158 rfl (lv_at hl 4 rfl) ?_
                  refine ki_iald (F := G 5) hx hb hK hP 4 3 rfl rfl (by omega) (by omega) (by decide) dX6_orderOf_159 ?_
                  refine ki_icmp_le (tgt := 167) hx hb dX6_orderOf_160 (by decide) (by omega) (by omega) (by omega) (by omega) (fun c_18 => ?_) (fun c_18 => ?_)
                  · skip
                    refine lv_iconst (v := iz 0) hx hb dX6_orderOf_167 (by decide) ?_
                    rw [← hQe]
                    exact mk_ireti hx hb hr hlocks hP hD hK hS dX6_orderOf_168 (⟨rfl, hBJ, hfJ, by omega⟩)
                  · skip
                    refine lv_iconst (v := iz 1) hx hb dX6_orderOf_163 (by decide) ?_
                    refine lv_goto (tgt := 168) hx hb dX6_orderOf_164 (by decide) ?_
                    rw [← hQe]
                    exact mk_ireti hx hb hr hlocks hP hD hK hS dX6_orderOf_168 (⟨rfl, hBJ, hfJ, by omega⟩)
                · skip
                  refine lv_iconst (v := iz (-1)) hx hb dX6_orderOf_144 (by decide) ?_
                  refine lv_goto (tgt := 168) hx hb dX6_orderOf_145 (by decide) ?_
                  rw [← hQe]
                  exact mk_ireti hx hb hr hlocks hP hD hK hS dX6_orderOf_168 (⟨rfl, hBJ, hfJ, by omega⟩)
              · skip
                refine lv_aload_n hx hb dX6_orderOf_86 rfl (lv_at hl 2 rfl) ?_
                refine va_get (D := (dC, dI)) (ci := 6) (v := .ref (ma 4)) (C := RX6) (T := TX6) (N := 44) hx hb hts kt_X6 hown hK hP 0 rfl rfl 4 (by decide) (kx_word hG kq_04_msmall_16 rfl) (fun _ h9 => h9) rfl dX6_orderOf_87 ?_
                refine lv_bipush (v := iz 20) hx hb dX6_orderOf_90 (by decide) ?_
                refine lv_iload_n hx hb dX6_orderOf_92 rfl (lv_at hl 3 rfl) ?_
                refine ki_imul hx hb dX6_orderOf_93 ?_
                refine lv_iload hx hb dX6_orderOf_94 (lv_at hl 0 rfl) ?_
                refine ki_iadd hx hb dX6_orderOf_96 ?_
                refine ki_iald (F := G 4) hx hb hK hP 3 2 rfl rfl (by omega) (by omega) (by decide) dX6_orderOf_97 ?_
                have hbd_19 := hBJ.2 4 ((20 * p0) + k)
                refine lv_aload_n hx hb dX6_orderOf_98 rfl (lv_at hl 2 rfl) ?_
                refine va_get (D := (dC, dI)) (ci := 6) (v := .ref (ma 4)) (C := RX6) (T := TX6) (N := 44) hx hb hts kt_X6 hown hK hP 0 rfl rfl 4 (by decide) (kx_word hG kq_04_msmall_16 rfl) (fun _ h9 => h9) rfl dX6_orderOf_99 ?_
                refine lv_bipush (v := iz 20) hx hb dX6_orderOf_102 (by decide) ?_
                refine lv_iload_n hx hb dX6_orderOf_104 rfl (lv_at hl 4 rfl) ?_
                refine ki_imul hx hb dX6_orderOf_105 ?_
                refine lv_iload hx hb dX6_orderOf_106 (lv_at hl 0 rfl) ?_
                refine ki_iadd hx hb dX6_orderOf_108 ?_
                refine ki_iald (F := G 4) hx hb hK hP 3 2 rfl rfl (by omega) (by omega) (by decide) dX6_orderOf_109 ?_
                have hbd_20 := hBJ.2 4 ((20 * p1) + k)
                refine mk_calls (As := [.int (iz (G 4 ((20 * p0) + k))), .int (iz (G 4 ((20 * p1) + k)))]) (rest := []) ⟨hx, hb, hml, hown, hts⟩ (k_signsDiffer l dC dI (G 4 ((20 * p0) + k)) (G 4 ((20 * p1) + k)) H.size (by omega) (by omega) (by omega) (by omega)) (va_cwS 2 hts (kx_gS kq_06_mway_4 kq_06_mway_5 kq_04_msmall_6 kq_06_mway_6 rfl) rfl rfl rfl (by decide +kernel) ⟨Nat.le_of_ble_eq_true rfl, Nat.le_of_ble_eq_true rfl⟩) hP hD hK hG hZ hS hA rfl hl.1 rfl (Nat.le_of_ble_eq_true rfl) dX6_orderOf_110 ⟨Nat.le_of_ble_eq_true rfl, Nat.le_of_ble_eq_true rfl⟩ (fun z_21 H locs hq_22 hP hS => ?_)
                try dsimp only at hq_22
                refine lv_istore (lv' := [(5, .int (iz z_21)), (4, .int (iz k)), (3, .int (iz more)), (0, .ref mo), (1, .int (iz p0)), (2, .int (iz p1))]) hx hb dX6_orderOf_113 hl (by decide) rfl (fun ls hl => ?_)
                refine lv_iload hx hb dX6_orderOf_115 (lv_at hl 0 rfl) ?_
                refine ki_if_eq (tgt := 123) hx hb dX6_orderOf_117 (by decide) (by omega) (by omega) (fun c_23 => ?_) (fun c_23 => ?_)
                · skip
                  refine lv_iinc (v := iz (k + 1)) (lv' := [(4, .int (iz (k + 1))), (5, .int (iz z_21)), (3, .int (iz more)), (0, .ref mo), (1, .int (iz p0)), (2, .int (iz p1))]) hx hb dX6_orderOf_123 hl (k := 1) rfl (iz_add k 1) (by decide) rfl (fun ls hl => ?_)
                  refine lv_goto (tgt := 64) hx hb dX6_orderOf_126 (by decide) ?_
                  exact ih64 (k + 1) (by omega) (by omega) _ _ hP hD hS ls (lv_sub hl [0, 2, 3, 4, 5] rfl)
                · skip
                  refine lv_iload hx hb dX6_orderOf_120 (lv_at hl 0 rfl) ?_
                  rw [← hQe]
                  exact mk_ireti hx hb hr hlocks hP hD hK hS dX6_orderOf_122 (⟨rfl, hBJ, hfJ, by omega⟩)
        exact lp64 _ 0 (by omega) (Nat.lt_succ_self _) _ _ hP hD hS ls (lv_sub hl [0, 1, 2, 3, 4] rfl)
      · skip
        refine lv_aload_n hx hb dX6_orderOf_16 rfl (lv_at hl 1 rfl) ?_
        refine lv_iconst (v := iz 0) hx hb dX6_orderOf_17 (by decide) ?_
        refine lv_iload_n hx hb dX6_orderOf_18 rfl (lv_at hl 2 rfl) ?_
        refine mk_callv (As := [.int (iz 0), .int (iz p0)]) (rest := []) ⟨hx, hb, hml, hown, hts⟩ (k_step l dC dI mo ma cs I G 0 p0 H.size hBJ (by omega) h0 (fun e => by rw [hfJ.2 5 (by decide)]; exact hn e) (by omega)) (cwV 2 hts (kx_gV kq_06_mway_7 kq_06_mway_8 kq_06_mway_9 kq_04_msmall_6 kq_06_mway_10 rfl) rfl rfl rfl (by decide +kernel) ⟨Nat.le_of_ble_eq_true rfl, Nat.le_of_ble_eq_true rfl⟩) hP hD hK hG hZ hS hA rfl hl.1 rfl (Nat.le_of_ble_eq_true rfl) dX6_orderOf_19 ⟨Nat.le_of_ble_eq_true rfl, Nat.le_of_ble_eq_true rfl⟩ (fun I_26 F_27 H locs hq_25 hP hD hS => ?_)
        try dsimp only at hq_25
        obtain ⟨rfl, hB28, hf28, ho28, hp28, ht28, hu28⟩ := hq_25
        have hfa := hfJ.tr hf28
        have e0a : F_27 20 1 = G 20 1 := ho28 20 1 (by decide)
        have e0b := congrFun (hfa.2 5 (by decide)) p1
        refine lv_aload_n hx hb dX6_orderOf_22 rfl (lv_at hl 1 rfl) ?_
        refine lv_iconst (v := iz 1) hx hb dX6_orderOf_23 (by decide) ?_
        refine lv_iload_n hx hb dX6_orderOf_24 rfl (lv_at hl 3 rfl) ?_
        refine mk_callv (As := [.int (iz 1), .int (iz p1)]) (rest := []) ⟨hx, hb, hml, hown, hts⟩ (k_step l dC dI mo ma cs I F_27 1 p1 H.size hB28 (by omega) h1 (fun e => by rw [hfa.2 5 (by decide)]; exact hn e) (by omega)) (cwV 2 hts (kx_gV kq_06_mway_7 kq_06_mway_8 kq_06_mway_9 kq_04_msmall_6 kq_06_mway_10 rfl) rfl rfl rfl (by decide +kernel) ⟨Nat.le_of_ble_eq_true rfl, Nat.le_of_ble_eq_true rfl⟩) hP hD hK hG hZ hS hA rfl hl.1 rfl (Nat.le_of_ble_eq_true rfl) dX6_orderOf_25 ⟨Nat.le_of_ble_eq_true rfl, Nat.le_of_ble_eq_true rfl⟩ (fun I_31 F_32 H locs hq_30 hP hD hS => ?_)
        try dsimp only at hq_30
        obtain ⟨rfl, hB33, hf33, ho33, hp33, ht33, hu33⟩ := hq_30
        have hfb := hfa.tr hf33
        have e120 : F_32 20 0 = F_27 20 0 := ho33 20 0 (by decide)
        have e122 : F_32 22 0 = F_27 22 0 := ho33 22 0 (by decide)
        have e123 : F_32 23 0 = F_27 23 0 := ho33 23 0 (by decide)
        have e124 : F_32 24 0 = F_27 24 0 := ho33 24 0 (by decide)
        refine lv_aload_n hx hb dX6_orderOf_28 rfl (lv_at hl 1 rfl) ?_
        refine mk_calli (As := []) (rest := []) ⟨hx, hb, hml, hown, hts⟩ (k_unitsDiffer l dC dI mo ma cs I F_32  H.size hB33 (by rw [e122, e123, e124]; exact hu28) hu33) (cwV 0 hts (kx_gV kq_06_mway_11 kq_06_mway_12 kq_06_mway_13 kq_04_msmall_6 kq_06_mway_14 rfl) rfl rfl rfl (by decide +kernel) ⟨Nat.le_of_ble_eq_true rfl, Nat.le_of_ble_eq_true rfl⟩) hP hD hK hG hZ hS hA rfl hl.1 rfl (Nat.le_of_ble_eq_true rfl) dX6_orderOf_29 ⟨Nat.le_of_ble_eq_true rfl, Nat.le_of_ble_eq_true rfl⟩ (fun z_34 I_36 F_37 H locs hq_35 hP hD hS => ?_)
        try dsimp only at hq_35
        obtain ⟨rfl, rfl, hq_35⟩ := hq_35
        refine lv_istore (lv' := [(4, .int (iz z_34)), (3, .int (iz more)), (0, .ref mo), (1, .int (iz p0)), (2, .int (iz p1))]) hx hb dX6_orderOf_32 hl (by decide) rfl (fun ls hl => ?_)
        refine lv_iload hx hb dX6_orderOf_34 (lv_at hl 0 rfl) ?_
        refine ki_if_eq (tgt := 42) hx hb dX6_orderOf_36 (by decide) (by omega) (by omega) (fun c_38 => ?_) (fun c_38 => ?_)
        · skip
          refine lv_aload_n hx hb dX6_orderOf_42 rfl (lv_at hl 2 rfl) ?_
          refine va_get (D := (dC, dI)) (ci := 6) (v := .ref (ma 22)) (C := RX6) (T := TX6) (N := 44) hx hb hts kt_X6 hown hK hP 0 rfl rfl 22 (by decide) (kx_word hG kq_05_morder_2 rfl) (fun _ h9 => h9) rfl dX6_orderOf_43 ?_
          refine lv_iconst (v := iz 0) hx hb dX6_orderOf_46 (by decide) ?_
          refine ki_iald (F := F_32 22) hx hb hK hP 17 16 rfl rfl (by omega) (by omega) (by decide) dX6_orderOf_47 ?_
          have hbd_39 := hB33.2 22 0
          refine lv_iconst (v := iz (-1)) hx hb dX6_orderOf_48 (by decide) ?_
          refine ki_icmp_eq (tgt := 56) hx hb dX6_orderOf_49 (by decide) (by omega) (by omega) (by omega) (by omega) (fun c_40 => ?_) (fun c_40 => ?_)
          · skip
            refine lv_iconst (v := iz 0) hx hb dX6_orderOf_56 (by decide) ?_
            refine lv_istore_n (lv' := [(3, .int (iz 0)), (4, .int (iz z_34)), (0, .ref mo), (1, .int (iz p0)), (2, .int (iz p1))]) hx hb dX6_orderOf_57 rfl hl (by decide) rfl (fun ls hl => ?_)
            refine lv_goto (tgt := 12) hx hb dX6_orderOf_58 (by decide) ?_
            exact ih12 0 F_32 ⟨hB33, hfb, by omega, by omega, by omega⟩ (by omega) _ _ hP hD hS ls (lv_sub hl [0, 2, 3, 4] rfl)
          · skip
            refine lv_iconst (v := iz 1) hx hb dX6_orderOf_52 (by decide) ?_
            refine lv_goto (tgt := 57) hx hb dX6_orderOf_53 (by decide) ?_
            refine lv_istore_n (lv' := [(3, .int (iz 1)), (4, .int (iz z_34)), (0, .ref mo), (1, .int (iz p0)), (2, .int (iz p1))]) hx hb dX6_orderOf_57 rfl hl (by decide) rfl (fun ls hl => ?_)
            refine lv_goto (tgt := 12) hx hb dX6_orderOf_58 (by decide) ?_
            exact ih12 1 F_32 ⟨hB33, hfb, by omega, by omega, by omega⟩ (by omega) _ _ hP hD hS ls (lv_sub hl [0, 2, 3, 4] rfl)
        · skip
          refine lv_iload hx hb dX6_orderOf_39 (lv_at hl 0 rfl) ?_
          rw [← hQe]
          exact mk_ireti hx hb hr hlocks hP hD hK hS dX6_orderOf_41 (⟨rfl, hB33, hfb, by omega⟩)
  exact lp12 _ 1 (va_up (va_up (va_up (va_up F 20 (upI (F 20) 0 0)) 21 (upI (F 21) 0 (vp_nar .boolean (iz 0)).toInt)) 20 (upI ((upI (F 20) 0 0)) 1 0)) 21 (upI ((upI (F 21) 0 (vp_nar .boolean (iz 0)).toInt)) 1 (vp_nar .boolean (iz 0)).toInt)) ⟨(mB_f (mB_f (mB_f (mB_f hB 20 0 (by omega) (by omega)) 21 0 (iz_lo _) (iz_hi _)) 20 1 (by omega) (by omega)) 21 1 (iz_lo _) (iz_hi _)), (mfr.upF (mfr.upF (mfr.upF (mfr.upF mfr.rf (by decide) _) (by decide) _) (by decide) _) (by decide) _), by simp [va_up, upI]; omega, by simp [va_up, upI]; omega, by omega⟩ (Nat.lt_succ_self _) _ _ hP hD hS ls (lv_sub hl [0, 1, 2, 3] rfl)
set_option maxHeartbeats 4000000 in
set_option maxRecDepth 100000 in
theorem k_areAlike (l : Launch) (dC : Nat → ClassId) (dI : Nat → Nat → Nat) (mo : Nat) (ma : Nat → Nat) (cs : Nat → ClassId) (I : Nat → Int) (F : Nat → Int → Int) (p0 : Int) (p1 : Int) (sz : Nat) (hB : mB I F) (h0 : 0 ≤ p0 ∧ p0 < 80) (h1 : 0 ≤ p1 ∧ p1 < 80) (hn : ∀ e, 0 ≤ F 5 e ∧ F 5 e ≤ 20) (hv0 : F 2 p0 = 0 ∨ (0 ≤ F 3 p0 ∧ F 3 p0 < 80)) (hv1 : F 2 p1 = 0 ∨ (0 ≤ F 3 p1 ∧ F 3 p1 < 80)) : mMi l yX6_areAlike (.code yX6_areAlike cX6_areAlike 5 (some .boolean)) 0 0 dC dI mo ma cs I F [.ref mo, .int (iz p0), .int (iz p1)] sz (fun (r : Int) (I' : Nat → Int) (F' : Nat → Int → Int) => I = I' ∧ F = F' ∧ ((r = 0 ∨ r = 1) ∧ (r = 1 → F 2 p0 = F 2 p1))) := by
  refine Met.ofW (cc := cX6_areAlike) (maxL := 5) (ret := (some .boolean)) (by decide) rfl ?_
  intro p e s m args below meth c s₁ B hml hv
  obtain ⟨rfl, hsz, hP, hK, hD0, hG, hZ⟩ := hv
  have hx := B.exec
  have hb := B.bytes
  have hr := B.returns
  have hts := kx_hts (a := ([.ref mo, .int (iz p0), .int (iz p1)] : List Value).toArray) hG
  have hown : s.vm.findClass RX6 = some m.cls := findClass_of_methodNamed B.named
  have hlocks := B.notSynchronized
  subst hsz
  have hD := hD0.self (sz := s.heap.size)
  generalize hAe : va_A (mW mo ma cs I F) s.heap.size = A at hD hZ ⊢
  have hA : ∀ q : Nat, s.heap.size ≤ q → A q := fun q h => by rw [← hAe]; exact Or.inr h
  have hS : va_S A s.heap s.heap [] := va_S.rf
  have hl := lv_entry ([.ref mo, .int (iz p0), .int (iz p1)]) (n := 5) (Nat.le_of_ble_eq_true rfl)
  rw [lg_entry_eq]
  generalize (lg_sl ([.ref mo, .int (iz p0), .int (iz p1)]) ++ List.replicate (5 - (lg_sl ([.ref mo, .int (iz p0), .int (iz p1)])).length) Slot.unset).toArray = ls at hl ⊢
  have hl : lv_has ls 5 [(0, .ref mo), (1, .int (iz p0)), (2, .int (iz p1))] := hl
  generalize hQe : MQ below (mQi dC dI mo ma cs A (fun (r : Int) (I' : Nat → Int) (F' : Nat → Int → Int) => I = I' ∧ F = F' ∧ ((r = 0 ∨ r = 1) ∧ (r = 1 → F 2 p0 = F 2 p1)))) ([.ref mo, .int (iz p0), .int (iz p1)] : List Value).toArray s 0 0 A = QQ
  have hna := hn p0
  refine lv_aload_n hx hb dX6_areAlike_0 rfl (lv_at hl 0 rfl) ?_
  refine va_get (D := (dC, dI)) (ci := 6) (v := .ref (ma 2)) (C := RX6) (T := TX6) (N := 44) hx hb hts kt_X6 hown hK hP 0 rfl rfl 2 (by decide) (kx_word hG kq_04_msmall_12 rfl) (fun _ h9 => h9) rfl dX6_areAlike_1 ?_
  refine lv_iload_n hx hb dX6_areAlike_4 rfl (lv_at hl 1 rfl) ?_
  refine ki_iald (F := F 2) hx hb hK hP 1 0 rfl rfl (by omega) (by omega) (by decide) dX6_areAlike_5 ?_
  have hbd_1 := hB.2 2 p0
  refine lv_aload_n hx hb dX6_areAlike_6 rfl (lv_at hl 0 rfl) ?_
  refine va_get (D := (dC, dI)) (ci := 6) (v := .ref (ma 2)) (C := RX6) (T := TX6) (N := 44) hx hb hts kt_X6 hown hK hP 0 rfl rfl 2 (by decide) (kx_word hG kq_04_msmall_12 rfl) (fun _ h9 => h9) rfl dX6_areAlike_7 ?_
  refine lv_iload_n hx hb dX6_areAlike_10 rfl (lv_at hl 2 rfl) ?_
  refine ki_iald (F := F 2) hx hb hK hP 1 0 rfl rfl (by omega) (by omega) (by decide) dX6_areAlike_11 ?_
  have hbd_2 := hB.2 2 p1
  refine ki_icmp_ne (tgt := 68) hx hb dX6_areAlike_12 (by decide) (by omega) (by omega) (by omega) (by omega) (fun c_3 => ?_) (fun c_3 => ?_)
  · skip
    refine lv_iconst (v := iz 0) hx hb dX6_areAlike_68 (by decide) ?_
    refine lv_istore_n (lv' := [(3, .int (iz 0)), (0, .ref mo), (1, .int (iz p0)), (2, .int (iz p1))]) hx hb dX6_areAlike_69 rfl hl (by decide) rfl (fun ls hl => ?_)
    refine lv_iconst (v := iz 0) hx hb dX6_areAlike_70 (by decide) ?_
    refine lv_istore (lv' := [(4, .int (iz 0)), (3, .int (iz 0)), (0, .ref mo), (1, .int (iz p0)), (2, .int (iz p1))]) hx hb dX6_areAlike_71 hl (by decide) rfl (fun ls hl => ?_)
    have lp73 : ∀ (n : Nat) (is k : Int), ((is = 0 ∨ (is = 1 ∧ F 2 p0 = F 2 p1)) ∧ (0 ≤ k ∧ k ≤ 20)) → (F 5 p0 - k).toNat < n → ∀ (H : Heap) (locs : List Loc), va_P (dC, dI) kxCl (mW mo ma cs I F) H → va_D A (mW mo ma cs I F) → va_S A s.heap H locs → ∀ ls : Array Slot, lv_has ls 5 [(4, .int (iz k)), (3, .int (iz is)), (0, .ref mo), (1, .int (iz p0)), (2, .int (iz p1))] → W p l e (headSpec [.code yX6_areAlike cX6_areAlike 5 (some .boolean)] ({ frames := 0, cells := 0, slots := 0, locals := 0 })).room s m ([.ref mo, .int (iz p0), .int (iz p1)] : List Value).toArray below meth c H locs 0 0 QQ (F0 m 73 ls []) := by
      intro n
      induction n with
      | zero => intro is k hinv hm; exact absurd hm (Nat.not_lt_zero _)
      | succ n ih73 =>
        intro is k hinv hm H locs hP hD hS ls hl
        obtain ⟨hi, hk⟩ := hinv
        refine lv_iload hx hb dX6_areAlike_73 (lv_at hl 0 rfl) ?_
        refine lv_aload_n hx hb dX6_areAlike_75 rfl (lv_at hl 2 rfl) ?_
        refine va_get (D := (dC, dI)) (ci := 6) (v := .ref (ma 5)) (C := RX6) (T := TX6) (N := 44) hx hb hts kt_X6 hown hK hP 0 rfl rfl 5 (by decide) (kx_word hG kq_04_msmall_15 rfl) (fun _ h9 => h9) rfl dX6_areAlike_76 ?_
        refine lv_iload_n hx hb dX6_areAlike_79 rfl (lv_at hl 3 rfl) ?_
        refine ki_iald (F := F 5) hx hb hK hP 4 3 rfl rfl (by omega) (by omega) (by decide) dX6_areAlike_80 ?_
        have hbd_4 := hB.2 5 p0
        refine ki_icmp_ge (tgt := 127) hx hb dX6_areAlike_81 (by decide) (by omega) (by omega) (by omega) (by omega) (fun c_5 => ?_) (fun c_5 => ?_)
        · skip
          refine lv_iload_n hx hb dX6_areAlike_127 rfl (lv_at hl 1 rfl) ?_
          rw [← hQe]
          exact mk_iretz hx hb hr hlocks hP hD hK hS dX6_areAlike_128 (by omega) (⟨rfl, rfl, by omega, by omega⟩)
        · skip
          refine lv_iload_n hx hb dX6_areAlike_84 rfl (lv_at hl 1 rfl) ?_
          refine ki_if_eq (tgt := 127) hx hb dX6_areAlike_85 (by decide) (by omega) (by omega) (fun c_6 => ?_) (fun c_6 => ?_)
          · skip
            refine lv_iload_n hx hb dX6_areAlike_127 rfl (lv_at hl 1 rfl) ?_
            rw [← hQe]
            exact mk_iretz hx hb hr hlocks hP hD hK hS dX6_areAlike_128 (by omega) (⟨rfl, rfl, by omega, by omega⟩)
          · skip
            refine lv_aload_n hx hb dX6_areAlike_88 rfl (lv_at hl 2 rfl) ?_
            refine va_get (D := (dC, dI)) (ci := 6) (v := .ref (ma 4)) (C := RX6) (T := TX6) (N := 44) hx hb hts kt_X6 hown hK hP 0 rfl rfl 4 (by decide) (kx_word hG kq_04_msmall_16 rfl) (fun _ h9 => h9) rfl dX6_areAlike_89 ?_
            refine lv_bipush (v := iz 20) hx hb dX6_areAlike_92 (by decide) ?_
            refine lv_iload_n hx hb dX6_areAlike_94 rfl (lv_at hl 3 rfl) ?_
            refine ki_imul hx hb dX6_areAlike_95 ?_
            refine lv_iload hx hb dX6_areAlike_96 (lv_at hl 0 rfl) ?_
            refine ki_iadd hx hb dX6_areAlike_98 ?_
            refine ki_iald (F := F 4) hx hb hK hP 3 2 rfl rfl (by omega) (by omega) (by decide) dX6_areAlike_99 ?_
            have hbd_7 := hB.2 4 ((20 * p0) + k)
            refine lv_aload_n hx hb dX6_areAlike_100 rfl (lv_at hl 2 rfl) ?_
            refine va_get (D := (dC, dI)) (ci := 6) (v := .ref (ma 4)) (C := RX6) (T := TX6) (N := 44) hx hb hts kt_X6 hown hK hP 0 rfl rfl 4 (by decide) (kx_word hG kq_04_msmall_16 rfl) (fun _ h9 => h9) rfl dX6_areAlike_101 ?_
            refine lv_bipush (v := iz 20) hx hb dX6_areAlike_104 (by decide) ?_
            refine lv_iload_n hx hb dX6_areAlike_106 rfl (lv_at hl 4 rfl) ?_
            refine ki_imul hx hb dX6_areAlike_107 ?_
            refine lv_iload hx hb dX6_areAlike_108 (lv_at hl 0 rfl) ?_
            refine ki_iadd hx hb dX6_areAlike_110 ?_
            refine ki_iald (F := F 4) hx hb hK hP 3 2 rfl rfl (by omega) (by omega) (by decide) dX6_areAlike_111 ?_
            have hbd_8 := hB.2 4 ((20 * p1) + k)
            refine ki_icmp_ne (tgt := 119) hx hb dX6_areAlike_112 (by decide) (by omega) (by omega) (by omega) (by omega) (fun c_9 => ?_) (fun c_9 => ?_)
            · skip
              refine lv_iconst (v := iz 0) hx hb dX6_areAlike_119 (by decide) ?_
              refine lv_istore_n (lv' := [(3, .int (iz 0)), (4, .int (iz k)), (0, .ref mo), (1, .int (iz p0)), (2, .int (iz p1))]) hx hb dX6_areAlike_120 rfl hl (by decide) rfl (fun ls hl => ?_)
              refine lv_iinc (v := iz (k + 1)) (lv' := [(4, .int (iz (k + 1))), (3, .int (iz 0)), (0, .ref mo), (1, .int (iz p0)), (2, .int (iz p1))]) hx hb dX6_areAlike_121 hl (k := 1) rfl (iz_add k 1) (by decide) rfl (fun ls hl => ?_)
              refine lv_goto (tgt := 73) hx hb dX6_areAlike_124 (by decide) ?_
              exact ih73 0 (k + 1) ⟨by omega, by omega⟩ (by omega) _ _ hP hD hS ls (lv_sub hl [0, 1, 2, 3, 4] rfl)
            · skip
              refine lv_iconst (v := iz 1) hx hb dX6_areAlike_115 (by decide) ?_
              refine lv_goto (tgt := 120) hx hb dX6_areAlike_116 (by decide) ?_
              refine lv_istore_n (lv' := [(3, .int (iz 1)), (4, .int (iz k)), (0, .ref mo), (1, .int (iz p0)), (2, .int (iz p1))]) hx hb dX6_areAlike_120 rfl hl (by decide) rfl (fun ls hl => ?_)
              refine lv_iinc (v := iz (k + 1)) (lv' := [(4, .int (iz (k + 1))), (3, .int (iz 1)), (0, .ref mo), (1, .int (iz p0)), (2, .int (iz p1))]) hx hb dX6_areAlike_121 hl (k := 1) rfl (iz_add k 1) (by decide) rfl (fun ls hl => ?_)
              refine lv_goto (tgt := 73) hx hb dX6_areAlike_124 (by decide) ?_
              exact ih73 1 (k + 1) ⟨by omega, by omega⟩ (by omega) _ _ hP hD hS ls (lv_sub hl [0, 1, 2, 3, 4] rfl)
    exact lp73 _ 0 0 ⟨by omega, by omega⟩ (Nat.lt_succ_self _) _ _ hP hD hS ls (lv_sub hl [0, 1, 2, 3, 4] rfl)
  · skip
    refine lv_aload_n hx hb dX6_areAlike_15 rfl (lv_at hl 0 rfl) ?_
    refine va_get (D := (dC, dI)) (ci := 6) (v := .ref (ma 5)) (C := RX6) (T := TX6) (N := 44) hx hb hts kt_X6 hown hK hP 0 rfl rfl 5 (by decide) (kx_word hG kq_04_msmall_15 rfl) (fun _ h9 => h9) rfl dX6_areAlike_16 ?_
    refine lv_iload_n hx hb dX6_areAlike_19 rfl (lv_at hl 1 rfl) ?_
    refine ki_iald (F := F 5) hx hb hK hP 4 3 rfl rfl (by omega) (by omega) (by decide) dX6_areAlike_20 ?_
    have hbd_10 := hB.2 5 p0
    refine lv_aload_n hx hb dX6_areAlike_21 rfl (lv_at hl 0 rfl) ?_
    refine va_get (D := (dC, dI)) (ci := 6) (v := .ref (ma 5)) (C := RX6) (T := TX6) (N := 44) hx hb hts kt_X6 hown hK hP 0 rfl rfl 5 (by decide) (kx_word hG kq_04_msmall_15 rfl) (fun _ h9 => h9) rfl dX6_areAlike_22 ?_
    refine lv_iload_n hx hb dX6_areAlike_25 rfl (lv_at hl 2 rfl) ?_
    refine ki_iald (F := F 5) hx hb hK hP 4 3 rfl rfl (by omega) (by omega) (by decide) dX6_areAlike_26 ?_
    have hbd_11 := hB.2 5 p1
    refine ki_icmp_ne (tgt := 68) hx hb dX6_areAlike_27 (by decide) (by omega) (by omega) (by omega) (by omega) (fun c_12 => ?_) (fun c_12 => ?_)
    · skip
      refine lv_iconst (v := iz 0) hx hb dX6_areAlike_68 (by decide) ?_
      refine lv_istore_n (lv' := [(3, .int (iz 0)), (0, .ref mo), (1, .int (iz p0)), (2, .int (iz p1))]) hx hb dX6_areAlike_69 rfl hl (by decide) rfl (fun ls hl => ?_)
      refine lv_iconst (v := iz 0) hx hb dX6_areAlike_70 (by decide) ?_
      refine lv_istore (lv' := [(4, .int (iz 0)), (3, .int (iz 0)), (0, .ref mo), (1, .int (iz p0)), (2, .int (iz p1))]) hx hb dX6_areAlike_71 hl (by decide) rfl (fun ls hl => ?_)
      have lp73 : ∀ (n : Nat) (is k : Int), ((is = 0 ∨ (is = 1 ∧ F 2 p0 = F 2 p1)) ∧ (0 ≤ k ∧ k ≤ 20)) → (F 5 p0 - k).toNat < n → ∀ (H : Heap) (locs : List Loc), va_P (dC, dI) kxCl (mW mo ma cs I F) H → va_D A (mW mo ma cs I F) → va_S A s.heap H locs → ∀ ls : Array Slot, lv_has ls 5 [(4, .int (iz k)), (3, .int (iz is)), (0, .ref mo), (1, .int (iz p0)), (2, .int (iz p1))] → W p l e (headSpec [.code yX6_areAlike cX6_areAlike 5 (some .boolean)] ({ frames := 0, cells := 0, slots := 0, locals := 0 })).room s m ([.ref mo, .int (iz p0), .int (iz p1)] : List Value).toArray below meth c H locs 0 0 QQ (F0 m 73 ls []) := by
        intro n
        induction n with
        | zero => intro is k hinv hm; exact absurd hm (Nat.not_lt_zero _)
        | succ n ih73 =>
          intro is k hinv hm H locs hP hD hS ls hl
          obtain ⟨hi, hk⟩ := hinv
          refine lv_iload hx hb dX6_areAlike_73 (lv_at hl 0 rfl) ?_
          refine lv_aload_n hx hb dX6_areAlike_75 rfl (lv_at hl 2 rfl) ?_
          refine va_get (D := (dC, dI)) (ci := 6) (v := .ref (ma 5)) (C := RX6) (T := TX6) (N := 44) hx hb hts kt_X6 hown hK hP 0 rfl rfl 5 (by decide) (kx_word hG kq_04_msmall_15 rfl) (fun _ h9 => h9) rfl dX6_areAlike_76 ?_
          refine lv_iload_n hx hb dX6_areAlike_79 rfl (lv_at hl 3 rfl) ?_
          refine ki_iald (F := F 5) hx hb hK hP 4 3 rfl rfl (by omega) (by omega) (by decide) dX6_areAlike_80 ?_
          refine ki_icmp_ge (tgt := 127) hx hb dX6_areAlike_81 (by decide) (by omega) (by omega) (by omega) (by omega) (fun c_13 => ?_) (fun c_13 => ?_)
          · skip
            refine lv_iload_n hx hb dX6_areAlike_127 rfl (lv_at hl 1 rfl) ?_
            rw [← hQe]
            exact mk_iretz hx hb hr hlocks hP hD hK hS dX6_areAlike_128 (by omega) (⟨rfl, rfl, by omega, by omega⟩)
          · skip
            refine lv_iload_n hx hb dX6_areAlike_84 rfl (lv_at hl 1 rfl) ?_
            refine ki_if_eq (tgt := 127) hx hb dX6_areAlike_85 (by decide) (by omega) (by omega) (fun c_14 => ?_) (fun c_14 => ?_)
            · skip
              refine lv_iload_n hx hb dX6_areAlike_127 rfl (lv_at hl 1 rfl) ?_
              rw [← hQe]
              exact mk_iretz hx hb hr hlocks hP hD hK hS dX6_areAlike_128 (by omega) (⟨rfl, rfl, by omega, by omega⟩)
            · skip
              refine lv_aload_n hx hb dX6_areAlike_88 rfl (lv_at hl 2 rfl) ?_
              refine va_get (D := (dC, dI)) (ci := 6) (v := .ref (ma 4)) (C := RX6) (T := TX6) (N := 44) hx hb hts kt_X6 hown hK hP 0 rfl rfl 4 (by decide) (kx_word hG kq_04_msmall_16 rfl) (fun _ h9 => h9) rfl dX6_areAlike_89 ?_
              refine lv_bipush (v := iz 20) hx hb dX6_areAlike_92 (by decide) ?_
              refine lv_iload_n hx hb dX6_areAlike_94 rfl (lv_at hl 3 rfl) ?_
              refine ki_imul hx hb dX6_areAlike_95 ?_
              refine lv_iload hx hb dX6_areAlike_96 (lv_at hl 0 rfl) ?_
              refine ki_iadd hx hb dX6_areAlike_98 ?_
              refine ki_iald (F := F 4) hx hb hK hP 3 2 rfl rfl (by omega) (by omega) (by decide) dX6_areAlike_99 ?_
              have hbd_15 := hB.2 4 ((20 * p0) + k)
              refine lv_aload_n hx hb dX6_areAlike_100 rfl (lv_at hl 2 rfl) ?_
              refine va_get (D := (dC, dI)) (ci := 6) (v := .ref (ma 4)) (C := RX6) (T := TX6) (N := 44) hx hb hts kt_X6 hown hK hP 0 rfl rfl 4 (by decide) (kx_word hG kq_04_msmall_16 rfl) (fun _ h9 => h9) rfl dX6_areAlike_101 ?_
              refine lv_bipush (v := iz 20) hx hb dX6_areAlike_104 (by decide) ?_
              refine lv_iload_n hx hb dX6_areAlike_106 rfl (lv_at hl 4 rfl) ?_
              refine ki_imul hx hb dX6_areAlike_107 ?_
              refine lv_iload hx hb dX6_areAlike_108 (lv_at hl 0 rfl) ?_
              refine ki_iadd hx hb dX6_areAlike_110 ?_
              refine ki_iald (F := F 4) hx hb hK hP 3 2 rfl rfl (by omega) (by omega) (by decide) dX6_areAlike_111 ?_
              have hbd_16 := hB.2 4 ((20 * p1) + k)
              refine ki_icmp_ne (tgt := 119) hx hb dX6_areAlike_112 (by decide) (by omega) (by omega) (by omega) (by omega) (fun c_17 => ?_) (fun c_17 => ?_)
              · skip
                refine lv_iconst (v := iz 0) hx hb dX6_areAlike_119 (by decide) ?_
                refine lv_istore_n (lv' := [(3, .int (iz 0)), (4, .int (iz k)), (0, .ref mo), (1, .int (iz p0)), (2, .int (iz p1))]) hx hb dX6_areAlike_120 rfl hl (by decide) rfl (fun ls hl => ?_)
                refine lv_iinc (v := iz (k + 1)) (lv' := [(4, .int (iz (k + 1))), (3, .int (iz 0)), (0, .ref mo), (1, .int (iz p0)), (2, .int (iz p1))]) hx hb dX6_areAlike_121 hl (k := 1) rfl (iz_add k 1) (by decide) rfl (fun ls hl => ?_)
                refine lv_goto (tgt := 73) hx hb dX6_areAlike_124 (by decide) ?_
                exact ih73 0 (k + 1) ⟨by omega, by omega⟩ (by omega) _ _ hP hD hS ls (lv_sub hl [0, 1, 2, 3, 4] rfl)
              · skip
                refine lv_iconst (v := iz 1) hx hb dX6_areAlike_115 (by decide) ?_
                refine lv_goto (tgt := 120) hx hb dX6_areAlike_116 (by decide) ?_
                refine lv_istore_n (lv' := [(3, .int (iz 1)), (4, .int (iz k)), (0, .ref mo), (1, .int (iz p0)), (2, .int (iz p1))]) hx hb dX6_areAlike_120 rfl hl (by decide) rfl (fun ls hl => ?_)
                refine lv_iinc (v := iz (k + 1)) (lv' := [(4, .int (iz (k + 1))), (3, .int (iz 1)), (0, .ref mo), (1, .int (iz p0)), (2, .int (iz p1))]) hx hb dX6_areAlike_121 hl (k := 1) rfl (iz_add k 1) (by decide) rfl (fun ls hl => ?_)
                refine lv_goto (tgt := 73) hx hb dX6_areAlike_124 (by decide) ?_
                exact ih73 1 (k + 1) ⟨by omega, by omega⟩ (by omega) _ _ hP hD hS ls (lv_sub hl [0, 1, 2, 3, 4] rfl)
      exact lp73 _ 0 0 ⟨by omega, by omega⟩ (Nat.lt_succ_self _) _ _ hP hD hS ls (lv_sub hl [0, 1, 2, 3, 4] rfl)
    · skip
      refine lv_aload_n hx hb dX6_areAlike_30 rfl (lv_at hl 0 rfl) ?_
      refine va_get (D := (dC, dI)) (ci := 6) (v := .ref (ma 2)) (C := RX6) (T := TX6) (N := 44) hx hb hts kt_X6 hown hK hP 0 rfl rfl 2 (by decide) (kx_word hG kq_04_msmall_12 rfl) (fun _ h9 => h9) rfl dX6_areAlike_31 ?_
      refine lv_iload_n hx hb dX6_areAlike_34 rfl (lv_at hl 1 rfl) ?_
      refine ki_iald (F := F 2) hx hb hK hP 1 0 rfl rfl (by omega) (by omega) (by decide) dX6_areAlike_35 ?_
      refine ki_if_eq (tgt := 64) hx hb dX6_areAlike_36 (by decide) (by omega) (by omega) (fun c_18 => ?_) (fun c_18 => ?_)
      · skip
        refine lv_iconst (v := iz 1) hx hb dX6_areAlike_64 (by decide) ?_
        refine lv_goto (tgt := 69) hx hb dX6_areAlike_65 (by decide) ?_
        refine lv_istore_n (lv' := [(3, .int (iz 1)), (0, .ref mo), (1, .int (iz p0)), (2, .int (iz p1))]) hx hb dX6_areAlike_69 rfl hl (by decide) rfl (fun ls hl => ?_)
        refine lv_iconst (v := iz 0) hx hb dX6_areAlike_70 (by decide) ?_
        refine lv_istore (lv' := [(4, .int (iz 0)), (3, .int (iz 1)), (0, .ref mo), (1, .int (iz p0)), (2, .int (iz p1))]) hx hb dX6_areAlike_71 hl (by decide) rfl (fun ls hl => ?_)
        have lp73 : ∀ (n : Nat) (is k : Int), ((is = 0 ∨ (is = 1 ∧ F 2 p0 = F 2 p1)) ∧ (0 ≤ k ∧ k ≤ 20)) → (F 5 p0 - k).toNat < n → ∀ (H : Heap) (locs : List Loc), va_P (dC, dI) kxCl (mW mo ma cs I F) H → va_D A (mW mo ma cs I F) → va_S A s.heap H locs → ∀ ls : Array Slot, lv_has ls 5 [(4, .int (iz k)), (3, .int (iz is)), (0, .ref mo), (1, .int (iz p0)), (2, .int (iz p1))] → W p l e (headSpec [.code yX6_areAlike cX6_areAlike 5 (some .boolean)] ({ frames := 0, cells := 0, slots := 0, locals := 0 })).room s m ([.ref mo, .int (iz p0), .int (iz p1)] : List Value).toArray below meth c H locs 0 0 QQ (F0 m 73 ls []) := by
          intro n
          induction n with
          | zero => intro is k hinv hm; exact absurd hm (Nat.not_lt_zero _)
          | succ n ih73 =>
            intro is k hinv hm H locs hP hD hS ls hl
            obtain ⟨hi, hk⟩ := hinv
            refine lv_iload hx hb dX6_areAlike_73 (lv_at hl 0 rfl) ?_
            refine lv_aload_n hx hb dX6_areAlike_75 rfl (lv_at hl 2 rfl) ?_
            refine va_get (D := (dC, dI)) (ci := 6) (v := .ref (ma 5)) (C := RX6) (T := TX6) (N := 44) hx hb hts kt_X6 hown hK hP 0 rfl rfl 5 (by decide) (kx_word hG kq_04_msmall_15 rfl) (fun _ h9 => h9) rfl dX6_areAlike_76 ?_
            refine lv_iload_n hx hb dX6_areAlike_79 rfl (lv_at hl 3 rfl) ?_
            refine ki_iald (F := F 5) hx hb hK hP 4 3 rfl rfl (by omega) (by omega) (by decide) dX6_areAlike_80 ?_
            refine ki_icmp_ge (tgt := 127) hx hb dX6_areAlike_81 (by decide) (by omega) (by omega) (by omega) (by omega) (fun c_19 => ?_) (fun c_19 => ?_)
            · skip
              refine lv_iload_n hx hb dX6_areAlike_127 rfl (lv_at hl 1 rfl) ?_
              rw [← hQe]
              exact mk_iretz hx hb hr hlocks hP hD hK hS dX6_areAlike_128 (by omega) (⟨rfl, rfl, by omega, by omega⟩)
            · skip
              refine lv_iload_n hx hb dX6_areAlike_84 rfl (lv_at hl 1 rfl) ?_
              refine ki_if_eq (tgt := 127) hx hb dX6_areAlike_85 (by decide) (by omega) (by omega) (fun c_20 => ?_) (fun c_20 => ?_)
              · skip
                refine lv_iload_n hx hb dX6_areAlike_127 rfl (lv_at hl 1 rfl) ?_
                rw [← hQe]
                exact mk_iretz hx hb hr hlocks hP hD hK hS dX6_areAlike_128 (by omega) (⟨rfl, rfl, by omega, by omega⟩)
              · skip
                refine lv_aload_n hx hb dX6_areAlike_88 rfl (lv_at hl 2 rfl) ?_
                refine va_get (D := (dC, dI)) (ci := 6) (v := .ref (ma 4)) (C := RX6) (T := TX6) (N := 44) hx hb hts kt_X6 hown hK hP 0 rfl rfl 4 (by decide) (kx_word hG kq_04_msmall_16 rfl) (fun _ h9 => h9) rfl dX6_areAlike_89 ?_
                refine lv_bipush (v := iz 20) hx hb dX6_areAlike_92 (by decide) ?_
                refine lv_iload_n hx hb dX6_areAlike_94 rfl (lv_at hl 3 rfl) ?_
                refine ki_imul hx hb dX6_areAlike_95 ?_
                refine lv_iload hx hb dX6_areAlike_96 (lv_at hl 0 rfl) ?_
                refine ki_iadd hx hb dX6_areAlike_98 ?_
                refine ki_iald (F := F 4) hx hb hK hP 3 2 rfl rfl (by omega) (by omega) (by decide) dX6_areAlike_99 ?_
                have hbd_21 := hB.2 4 ((20 * p0) + k)
                refine lv_aload_n hx hb dX6_areAlike_100 rfl (lv_at hl 2 rfl) ?_
                refine va_get (D := (dC, dI)) (ci := 6) (v := .ref (ma 4)) (C := RX6) (T := TX6) (N := 44) hx hb hts kt_X6 hown hK hP 0 rfl rfl 4 (by decide) (kx_word hG kq_04_msmall_16 rfl) (fun _ h9 => h9) rfl dX6_areAlike_101 ?_
                refine lv_bipush (v := iz 20) hx hb dX6_areAlike_104 (by decide) ?_
                refine lv_iload_n hx hb dX6_areAlike_106 rfl (lv_at hl 4 rfl) ?_
                refine ki_imul hx hb dX6_areAlike_107 ?_
                refine lv_iload hx hb dX6_areAlike_108 (lv_at hl 0 rfl) ?_
                refine ki_iadd hx hb dX6_areAlike_110 ?_
                refine ki_iald (F := F 4) hx hb hK hP 3 2 rfl rfl (by omega) (by omega) (by decide) dX6_areAlike_111 ?_
                have hbd_22 := hB.2 4 ((20 * p1) + k)
                refine ki_icmp_ne (tgt := 119) hx hb dX6_areAlike_112 (by decide) (by omega) (by omega) (by omega) (by omega) (fun c_23 => ?_) (fun c_23 => ?_)
                · skip
                  refine lv_iconst (v := iz 0) hx hb dX6_areAlike_119 (by decide) ?_
                  refine lv_istore_n (lv' := [(3, .int (iz 0)), (4, .int (iz k)), (0, .ref mo), (1, .int (iz p0)), (2, .int (iz p1))]) hx hb dX6_areAlike_120 rfl hl (by decide) rfl (fun ls hl => ?_)
                  refine lv_iinc (v := iz (k + 1)) (lv' := [(4, .int (iz (k + 1))), (3, .int (iz 0)), (0, .ref mo), (1, .int (iz p0)), (2, .int (iz p1))]) hx hb dX6_areAlike_121 hl (k := 1) rfl (iz_add k 1) (by decide) rfl (fun ls hl => ?_)
                  refine lv_goto (tgt := 73) hx hb dX6_areAlike_124 (by decide) ?_
                  exact ih73 0 (k + 1) ⟨by omega, by omega⟩ (by omega) _ _ hP hD hS ls (lv_sub hl [0, 1, 2, 3, 4] rfl)
                · skip
                  refine lv_iconst (v := iz 1) hx hb dX6_areAlike_115 (by decide) ?_
                  refine lv_goto (tgt := 120) hx hb dX6_areAlike_116 (by decide) ?_
                  refine lv_istore_n (lv' := [(3, .int (iz 1)), (4, .int (iz k)), (0, .ref mo), (1, .int (iz p0)), (2, .int (iz p1))]) hx hb dX6_areAlike_120 rfl hl (by decide) rfl (fun ls hl => ?_)
                  refine lv_iinc (v := iz (k + 1)) (lv' := [(4, .int (iz (k + 1))), (3, .int (iz 1)), (0, .ref mo), (1, .int (iz p0)), (2, .int (iz p1))]) hx hb dX6_areAlike_121 hl (k := 1) rfl (iz_add k 1) (by decide) rfl (fun ls hl => ?_)
                  refine lv_goto (tgt := 73) hx hb dX6_areAlike_124 (by decide) ?_
                  exact ih73 1 (k + 1) ⟨by omega, by omega⟩ (by omega) _ _ hP hD hS ls (lv_sub hl [0, 1, 2, 3, 4] rfl)
        exact lp73 _ 1 0 ⟨by omega, by omega⟩ (Nat.lt_succ_self _) _ _ hP hD hS ls (lv_sub hl [0, 1, 2, 3, 4] rfl)
      · skip
        refine lv_aload_n hx hb dX6_areAlike_39 rfl (lv_at hl 0 rfl) ?_
        refine va_get (D := (dC, dI)) (ci := 6) (v := .ref (ma 17)) (C := RX6) (T := TX6) (N := 44) hx hb hts kt_X6 hown hK hP 0 rfl rfl 17 (by decide) (kx_word hG kq_06_mway_15 rfl) (fun _ h9 => h9) rfl dX6_areAlike_40 ?_
        refine lv_aload_n hx hb dX6_areAlike_43 rfl (lv_at hl 0 rfl) ?_
        refine va_get (D := (dC, dI)) (ci := 6) (v := .ref (ma 3)) (C := RX6) (T := TX6) (N := 44) hx hb hts kt_X6 hown hK hP 0 rfl rfl 3 (by decide) (kx_word hG kq_04_msmall_13 rfl) (fun _ h9 => h9) rfl dX6_areAlike_44 ?_
        refine lv_iload_n hx hb dX6_areAlike_47 rfl (lv_at hl 1 rfl) ?_
        refine ki_iald (F := F 3) hx hb hK hP 2 1 rfl rfl (by omega) (by omega) (by decide) dX6_areAlike_48 ?_
        have hbd_24 := hB.2 3 p0
        refine ki_iald (F := F 17) hx hb hK hP 13 12 rfl rfl (by omega) (by omega) (by decide) dX6_areAlike_49 ?_
        have hbd_25 := hB.2 17 (F 3 p0)
        refine lv_aload_n hx hb dX6_areAlike_50 rfl (lv_at hl 0 rfl) ?_
        refine va_get (D := (dC, dI)) (ci := 6) (v := .ref (ma 17)) (C := RX6) (T := TX6) (N := 44) hx hb hts kt_X6 hown hK hP 0 rfl rfl 17 (by decide) (kx_word hG kq_06_mway_15 rfl) (fun _ h9 => h9) rfl dX6_areAlike_51 ?_
        refine lv_aload_n hx hb dX6_areAlike_54 rfl (lv_at hl 0 rfl) ?_
        refine va_get (D := (dC, dI)) (ci := 6) (v := .ref (ma 3)) (C := RX6) (T := TX6) (N := 44) hx hb hts kt_X6 hown hK hP 0 rfl rfl 3 (by decide) (kx_word hG kq_04_msmall_13 rfl) (fun _ h9 => h9) rfl dX6_areAlike_55 ?_
        refine lv_iload_n hx hb dX6_areAlike_58 rfl (lv_at hl 2 rfl) ?_
        refine ki_iald (F := F 3) hx hb hK hP 2 1 rfl rfl (by omega) (by omega) (by decide) dX6_areAlike_59 ?_
        have hbd_26 := hB.2 3 p1
        refine ki_iald (F := F 17) hx hb hK hP 13 12 rfl rfl (by omega) (by omega) (by decide) dX6_areAlike_60 ?_
        have hbd_27 := hB.2 17 (F 3 p1)
        refine ki_icmp_ne (tgt := 68) hx hb dX6_areAlike_61 (by decide) (by omega) (by omega) (by omega) (by omega) (fun c_28 => ?_) (fun c_28 => ?_)
        · skip
          refine lv_iconst (v := iz 0) hx hb dX6_areAlike_68 (by decide) ?_
          refine lv_istore_n (lv' := [(3, .int (iz 0)), (0, .ref mo), (1, .int (iz p0)), (2, .int (iz p1))]) hx hb dX6_areAlike_69 rfl hl (by decide) rfl (fun ls hl => ?_)
          refine lv_iconst (v := iz 0) hx hb dX6_areAlike_70 (by decide) ?_
          refine lv_istore (lv' := [(4, .int (iz 0)), (3, .int (iz 0)), (0, .ref mo), (1, .int (iz p0)), (2, .int (iz p1))]) hx hb dX6_areAlike_71 hl (by decide) rfl (fun ls hl => ?_)
          have lp73 : ∀ (n : Nat) (is k : Int), ((is = 0 ∨ (is = 1 ∧ F 2 p0 = F 2 p1)) ∧ (0 ≤ k ∧ k ≤ 20)) → (F 5 p0 - k).toNat < n → ∀ (H : Heap) (locs : List Loc), va_P (dC, dI) kxCl (mW mo ma cs I F) H → va_D A (mW mo ma cs I F) → va_S A s.heap H locs → ∀ ls : Array Slot, lv_has ls 5 [(4, .int (iz k)), (3, .int (iz is)), (0, .ref mo), (1, .int (iz p0)), (2, .int (iz p1))] → W p l e (headSpec [.code yX6_areAlike cX6_areAlike 5 (some .boolean)] ({ frames := 0, cells := 0, slots := 0, locals := 0 })).room s m ([.ref mo, .int (iz p0), .int (iz p1)] : List Value).toArray below meth c H locs 0 0 QQ (F0 m 73 ls []) := by
            intro n
            induction n with
            | zero => intro is k hinv hm; exact absurd hm (Nat.not_lt_zero _)
            | succ n ih73 =>
              intro is k hinv hm H locs hP hD hS ls hl
              obtain ⟨hi, hk⟩ := hinv
              refine lv_iload hx hb dX6_areAlike_73 (lv_at hl 0 rfl) ?_
              refine lv_aload_n hx hb dX6_areAlike_75 rfl (lv_at hl 2 rfl) ?_
              refine va_get (D := (dC, dI)) (ci := 6) (v := .ref (ma 5)) (C := RX6) (T := TX6) (N := 44) hx hb hts kt_X6 hown hK hP 0 rfl rfl 5 (by decide) (kx_word hG kq_04_msmall_15 rfl) (fun _ h9 => h9) rfl dX6_areAlike_76 ?_
              refine lv_iload_n hx hb dX6_areAlike_79 rfl (lv_at hl 3 rfl) ?_
              refine ki_iald (F := F 5) hx hb hK hP 4 3 rfl rfl (by omega) (by omega) (by decide) dX6_areAlike_80 ?_
              refine ki_icmp_ge (tgt := 127) hx hb dX6_areAlike_81 (by decide) (by omega) (by omega) (by omega) (by omega) (fun c_29 => ?_) (fun c_29 => ?_)
              · skip
                refine lv_iload_n hx hb dX6_areAlike_127 rfl (lv_at hl 1 rfl) ?_
                rw [← hQe]
                exact mk_iretz hx hb hr hlocks hP hD hK hS dX6_areAlike_128 (by omega) (⟨rfl, rfl, by omega, by omega⟩)
              · skip
                refine lv_iload_n hx hb dX6_areAlike_84 rfl (lv_at hl 1 rfl) ?_
                refine ki_if_eq (tgt := 127) hx hb dX6_areAlike_85 (by decide) (by omega) (by omega) (fun c_30 => ?_) (fun c_30 => ?_)
                · skip
                  refine lv_iload_n hx hb dX6_areAlike_127 rfl (lv_at hl 1 rfl) ?_
                  rw [← hQe]
                  exact mk_iretz hx hb hr hlocks hP hD hK hS dX6_areAlike_128 (by omega) (⟨rfl, rfl, by omega, by omega⟩)
                · skip
                  refine lv_aload_n hx hb dX6_areAlike_88 rfl (lv_at hl 2 rfl) ?_
                  refine va_get (D := (dC, dI)) (ci := 6) (v := .ref (ma 4)) (C := RX6) (T := TX6) (N := 44) hx hb hts kt_X6 hown hK hP 0 rfl rfl 4 (by decide) (kx_word hG kq_04_msmall_16 rfl) (fun _ h9 => h9) rfl dX6_areAlike_89 ?_
                  refine lv_bipush (v := iz 20) hx hb dX6_areAlike_92 (by decide) ?_
                  refine lv_iload_n hx hb dX6_areAlike_94 rfl (lv_at hl 3 rfl) ?_
                  refine ki_imul hx hb dX6_areAlike_95 ?_
                  refine lv_iload hx hb dX6_areAlike_96 (lv_at hl 0 rfl) ?_
                  refine ki_iadd hx hb dX6_areAlike_98 ?_
                  refine ki_iald (F := F 4) hx hb hK hP 3 2 rfl rfl (by omega) (by omega) (by decide) dX6_areAlike_99 ?_
                  have hbd_31 := hB.2 4 ((20 * p0) + k)
                  refine lv_aload_n hx hb dX6_areAlike_100 rfl (lv_at hl 2 rfl) ?_
                  refine va_get (D := (dC, dI)) (ci := 6) (v := .ref (ma 4)) (C := RX6) (T := TX6) (N := 44) hx hb hts kt_X6 hown hK hP 0 rfl rfl 4 (by decide) (kx_word hG kq_04_msmall_16 rfl) (fun _ h9 => h9) rfl dX6_areAlike_101 ?_
                  refine lv_bipush (v := iz 20) hx hb dX6_areAlike_104 (by decide) ?_
                  refine lv_iload_n hx hb dX6_areAlike_106 rfl (lv_at hl 4 rfl) ?_
                  refine ki_imul hx hb dX6_areAlike_107 ?_
                  refine lv_iload hx hb dX6_areAlike_108 (lv_at hl 0 rfl) ?_
                  refine ki_iadd hx hb dX6_areAlike_110 ?_
                  refine ki_iald (F := F 4) hx hb hK hP 3 2 rfl rfl (by omega) (by omega) (by decide) dX6_areAlike_111 ?_
                  have hbd_32 := hB.2 4 ((20 * p1) + k)
                  refine ki_icmp_ne (tgt := 119) hx hb dX6_areAlike_112 (by decide) (by omega) (by omega) (by omega) (by omega) (fun c_33 => ?_) (fun c_33 => ?_)
                  · skip
                    refine lv_iconst (v := iz 0) hx hb dX6_areAlike_119 (by decide) ?_
                    refine lv_istore_n (lv' := [(3, .int (iz 0)), (4, .int (iz k)), (0, .ref mo), (1, .int (iz p0)), (2, .int (iz p1))]) hx hb dX6_areAlike_120 rfl hl (by decide) rfl (fun ls hl => ?_)
                    refine lv_iinc (v := iz (k + 1)) (lv' := [(4, .int (iz (k + 1))), (3, .int (iz 0)), (0, .ref mo), (1, .int (iz p0)), (2, .int (iz p1))]) hx hb dX6_areAlike_121 hl (k := 1) rfl (iz_add k 1) (by decide) rfl (fun ls hl => ?_)
                    refine lv_goto (tgt := 73) hx hb dX6_areAlike_124 (by decide) ?_
                    exact ih73 0 (k + 1) ⟨by omega, by omega⟩ (by omega) _ _ hP hD hS ls (lv_sub hl [0, 1, 2, 3, 4] rfl)
                  · skip
                    refine lv_iconst (v := iz 1) hx hb dX6_areAlike_115 (by decide) ?_
                    refine lv_goto (tgt := 120) hx hb dX6_areAlike_116 (by decide) ?_
                    refine lv_istore_n (lv' := [(3, .int (iz 1)), (4, .int (iz k)), (0, .ref mo), (1, .int (iz p0)), (2, .int (iz p1))]) hx hb dX6_areAlike_120 rfl hl (by decide) rfl (fun ls hl => ?_)
                    refine lv_iinc (v := iz (k + 1)) (lv' := [(4, .int (iz (k + 1))), (3, .int (iz 1)), (0, .ref mo), (1, .int (iz p0)), (2, .int (iz p1))]) hx hb dX6_areAlike_121 hl (k := 1) rfl (iz_add k 1) (by decide) rfl (fun ls hl => ?_)
                    refine lv_goto (tgt := 73) hx hb dX6_areAlike_124 (by decide) ?_
                    exact ih73 1 (k + 1) ⟨by omega, by omega⟩ (by omega) _ _ hP hD hS ls (lv_sub hl [0, 1, 2, 3, 4] rfl)
          exact lp73 _ 0 0 ⟨by omega, by omega⟩ (Nat.lt_succ_self _) _ _ hP hD hS ls (lv_sub hl [0, 1, 2, 3, 4] rfl)
        · skip
          refine lv_iconst (v := iz 1) hx hb dX6_areAlike_64 (by decide) ?_
          refine lv_goto (tgt := 69) hx hb dX6_areAlike_65 (by decide) ?_
          refine lv_istore_n (lv' := [(3, .int (iz 1)), (0, .ref mo), (1, .int (iz p0)), (2, .int (iz p1))]) hx hb dX6_areAlike_69 rfl hl (by decide) rfl (fun ls hl => ?_)
          refine lv_iconst (v := iz 0) hx hb dX6_areAlike_70 (by decide) ?_
          refine lv_istore (lv' := [(4, .int (iz 0)), (3, .int (iz 1)), (0, .ref mo), (1, .int (iz p0)), (2, .int (iz p1))]) hx hb dX6_areAlike_71 hl (by decide) rfl (fun ls hl => ?_)
          have lp73 : ∀ (n : Nat) (is k : Int), ((is = 0 ∨ (is = 1 ∧ F 2 p0 = F 2 p1)) ∧ (0 ≤ k ∧ k ≤ 20)) → (F 5 p0 - k).toNat < n → ∀ (H : Heap) (locs : List Loc), va_P (dC, dI) kxCl (mW mo ma cs I F) H → va_D A (mW mo ma cs I F) → va_S A s.heap H locs → ∀ ls : Array Slot, lv_has ls 5 [(4, .int (iz k)), (3, .int (iz is)), (0, .ref mo), (1, .int (iz p0)), (2, .int (iz p1))] → W p l e (headSpec [.code yX6_areAlike cX6_areAlike 5 (some .boolean)] ({ frames := 0, cells := 0, slots := 0, locals := 0 })).room s m ([.ref mo, .int (iz p0), .int (iz p1)] : List Value).toArray below meth c H locs 0 0 QQ (F0 m 73 ls []) := by
            intro n
            induction n with
            | zero => intro is k hinv hm; exact absurd hm (Nat.not_lt_zero _)
            | succ n ih73 =>
              intro is k hinv hm H locs hP hD hS ls hl
              obtain ⟨hi, hk⟩ := hinv
              refine lv_iload hx hb dX6_areAlike_73 (lv_at hl 0 rfl) ?_
              refine lv_aload_n hx hb dX6_areAlike_75 rfl (lv_at hl 2 rfl) ?_
              refine va_get (D := (dC, dI)) (ci := 6) (v := .ref (ma 5)) (C := RX6) (T := TX6) (N := 44) hx hb hts kt_X6 hown hK hP 0 rfl rfl 5 (by decide) (kx_word hG kq_04_msmall_15 rfl) (fun _ h9 => h9) rfl dX6_areAlike_76 ?_
              refine lv_iload_n hx hb dX6_areAlike_79 rfl (lv_at hl 3 rfl) ?_
              refine ki_iald (F := F 5) hx hb hK hP 4 3 rfl rfl (by omega) (by omega) (by decide) dX6_areAlike_80 ?_
              refine ki_icmp_ge (tgt := 127) hx hb dX6_areAlike_81 (by decide) (by omega) (by omega) (by omega) (by omega) (fun c_34 => ?_) (fun c_34 => ?_)
              · skip
                refine lv_iload_n hx hb dX6_areAlike_127 rfl (lv_at hl 1 rfl) ?_
                rw [← hQe]
                exact mk_iretz hx hb hr hlocks hP hD hK hS dX6_areAlike_128 (by omega) (⟨rfl, rfl, by omega, by omega⟩)
              · skip
                refine lv_iload_n hx hb dX6_areAlike_84 rfl (lv_at hl 1 rfl) ?_
                refine ki_if_eq (tgt := 127) hx hb dX6_areAlike_85 (by decide) (by omega) (by omega) (fun c_35 => ?_) (fun c_35 => ?_)
                · skip
                  refine lv_iload_n hx hb dX6_areAlike_127 rfl (lv_at hl 1 rfl) ?_
                  rw [← hQe]
                  exact mk_iretz hx hb hr hlocks hP hD hK hS dX6_areAlike_128 (by omega) (⟨rfl, rfl, by omega, by omega⟩)
                · skip
                  refine lv_aload_n hx hb dX6_areAlike_88 rfl (lv_at hl 2 rfl) ?_
                  refine va_get (D := (dC, dI)) (ci := 6) (v := .ref (ma 4)) (C := RX6) (T := TX6) (N := 44) hx hb hts kt_X6 hown hK hP 0 rfl rfl 4 (by decide) (kx_word hG kq_04_msmall_16 rfl) (fun _ h9 => h9) rfl dX6_areAlike_89 ?_
                  refine lv_bipush (v := iz 20) hx hb dX6_areAlike_92 (by decide) ?_
                  refine lv_iload_n hx hb dX6_areAlike_94 rfl (lv_at hl 3 rfl) ?_
                  refine ki_imul hx hb dX6_areAlike_95 ?_
                  refine lv_iload hx hb dX6_areAlike_96 (lv_at hl 0 rfl) ?_
                  refine ki_iadd hx hb dX6_areAlike_98 ?_
                  refine ki_iald (F := F 4) hx hb hK hP 3 2 rfl rfl (by omega) (by omega) (by decide) dX6_areAlike_99 ?_
                  have hbd_36 := hB.2 4 ((20 * p0) + k)
                  refine lv_aload_n hx hb dX6_areAlike_100 rfl (lv_at hl 2 rfl) ?_
                  refine va_get (D := (dC, dI)) (ci := 6) (v := .ref (ma 4)) (C := RX6) (T := TX6) (N := 44) hx hb hts kt_X6 hown hK hP 0 rfl rfl 4 (by decide) (kx_word hG kq_04_msmall_16 rfl) (fun _ h9 => h9) rfl dX6_areAlike_101 ?_
                  refine lv_bipush (v := iz 20) hx hb dX6_areAlike_104 (by decide) ?_
                  refine lv_iload_n hx hb dX6_areAlike_106 rfl (lv_at hl 4 rfl) ?_
                  refine ki_imul hx hb dX6_areAlike_107 ?_
                  refine lv_iload hx hb dX6_areAlike_108 (lv_at hl 0 rfl) ?_
                  refine ki_iadd hx hb dX6_areAlike_110 ?_
                  refine ki_iald (F := F 4) hx hb hK hP 3 2 rfl rfl (by omega) (by omega) (by decide) dX6_areAlike_111 ?_
                  have hbd_37 := hB.2 4 ((20 * p1) + k)
                  refine ki_icmp_ne (tgt := 119) hx hb dX6_areAlike_112 (by decide) (by omega) (by omega) (by omega) (by omega) (fun c_38 => ?_) (fun c_38 => ?_)
                  · skip
                    refine lv_iconst (v := iz 0) hx hb dX6_areAlike_119 (by decide) ?_
                    refine lv_istore_n (lv' := [(3, .int (iz 0)), (4, .int (iz k)), (0, .ref mo), (1, .int (iz p0)), (2, .int (iz p1))]) hx hb dX6_areAlike_120 rfl hl (by decide) rfl (fun ls hl => ?_)
                    refine lv_iinc (v := iz (k + 1)) (lv' := [(4, .int (iz (k + 1))), (3, .int (iz 0)), (0, .ref mo), (1, .int (iz p0)), (2, .int (iz p1))]) hx hb dX6_areAlike_121 hl (k := 1) rfl (iz_add k 1) (by decide) rfl (fun ls hl => ?_)
                    refine lv_goto (tgt := 73) hx hb dX6_areAlike_124 (by decide) ?_
                    exact ih73 0 (k + 1) ⟨by omega, by omega⟩ (by omega) _ _ hP hD hS ls (lv_sub hl [0, 1, 2, 3, 4] rfl)
                  · skip
                    refine lv_iconst (v := iz 1) hx hb dX6_areAlike_115 (by decide) ?_
                    refine lv_goto (tgt := 120) hx hb dX6_areAlike_116 (by decide) ?_
                    refine lv_istore_n (lv' := [(3, .int (iz 1)), (4, .int (iz k)), (0, .ref mo), (1, .int (iz p0)), (2, .int (iz p1))]) hx hb dX6_areAlike_120 rfl hl (by decide) rfl (fun ls hl => ?_)
                    refine lv_iinc (v := iz (k + 1)) (lv' := [(4, .int (iz (k + 1))), (3, .int (iz 1)), (0, .ref mo), (1, .int (iz p0)), (2, .int (iz p1))]) hx hb dX6_areAlike_121 hl (k := 1) rfl (iz_add k 1) (by decide) rfl (fun ls hl => ?_)
                    refine lv_goto (tgt := 73) hx hb dX6_areAlike_124 (by decide) ?_
                    exact ih73 1 (k + 1) ⟨by omega, by omega⟩ (by omega) _ _ hP hD hS ls (lv_sub hl [0, 1, 2, 3, 4] rfl)
          exact lp73 _ 1 0 ⟨by omega, by omega⟩ (Nat.lt_succ_self _) _ _ hP hD hS ls (lv_sub hl [0, 1, 2, 3, 4] rfl)
set_option maxHeartbeats 4000000 in
set_option maxRecDepth 100000 in
theorem k_wayOf (l : Launch) (dC : Nat → ClassId) (dI : Nat → Nat → Nat) (mo : Nat) (ma : Nat → Nat) (cs : Nat → ClassId) (I : Nat → Int) (F : Nat → Int → Int) (p0 : Int) (lev : Int) (nn : Int) (sz : Nat) (hB : mB I F) (hc : 0 ≤ I 1 ∧ I 1 ≤ 64) (hlv : mLv I F) (hsm : mSm nn F) (h0 : 0 ≤ p0 ∧ p0 < I 1 ∧ p0 ≤ nn) (hle : 0 ≤ lev ∧ lev ≤ 3) : mMi l yX6_wayOf (.code yX6_wayOf cX6_wayOf 4 (some .int)) 0 0 dC dI mo ma cs I F [.ref mo, .int (iz p0), .int (iz lev)] sz (fun (r : Int) (I' : Nat → Int) (F' : Nat → Int → Int) => I = I' ∧ F = F' ∧ ((r = -1 ∨ (0 ≤ r ∧ r < I 1 ∧ r ≤ nn ∧ F 2 r = lev)) ∧ (lev = 0 → 0 ≤ r))) := by
  refine Met.ofW (cc := cX6_wayOf) (maxL := 4) (ret := (some .int)) (by decide) rfl ?_
  intro p e s m args below meth c s₁ B hml hv
  obtain ⟨rfl, hsz, hP, hK, hD0, hG, hZ⟩ := hv
  have hx := B.exec
  have hb := B.bytes
  have hr := B.returns
  have hts := kx_hts (a := ([.ref mo, .int (iz p0), .int (iz lev)] : List Value).toArray) hG
  have hown : s.vm.findClass RX6 = some m.cls := findClass_of_methodNamed B.named
  have hlocks := B.notSynchronized
  subst hsz
  have hD := hD0.self (sz := s.heap.size)
  generalize hAe : va_A (mW mo ma cs I F) s.heap.size = A at hD hZ ⊢
  have hA : ∀ q : Nat, s.heap.size ≤ q → A q := fun q h => by rw [← hAe]; exact Or.inr h
  have hS : va_S A s.heap s.heap [] := va_S.rf
  have hl := lv_entry ([.ref mo, .int (iz p0), .int (iz lev)]) (n := 4) (Nat.le_of_ble_eq_true rfl)
  rw [lg_entry_eq]
  generalize (lg_sl ([.ref mo, .int (iz p0), .int (iz lev)]) ++ List.replicate (4 - (lg_sl ([.ref mo, .int (iz p0), .int (iz lev)])).length) Slot.unset).toArray = ls at hl ⊢
  have hl : lv_has ls 4 [(0, .ref mo), (1, .int (iz p0)), (2, .int (iz lev))] := hl
  generalize hQe : MQ below (mQi dC dI mo ma cs A (fun (r : Int) (I' : Nat → Int) (F' : Nat → Int → Int) => I = I' ∧ F = F' ∧ ((r = -1 ∨ (0 ≤ r ∧ r < I 1 ∧ r ≤ nn ∧ F 2 r = lev)) ∧ (lev = 0 → 0 ≤ r)))) ([.ref mo, .int (iz p0), .int (iz lev)] : List Value).toArray s 0 0 A = QQ
  refine lv_iload_n hx hb dX6_wayOf_0 rfl (lv_at hl 1 rfl) ?_
  refine lv_istore_n (lv' := [(3, .int (iz p0)), (0, .ref mo), (1, .int (iz p0)), (2, .int (iz lev))]) hx hb dX6_wayOf_1 rfl hl (by decide) rfl (fun ls hl => ?_)
  have lp2 : ∀ (n : Nat) (ax : Int), ((0 ≤ ax ∧ ax < I 1 ∧ ax ≤ nn)) → (F 2 ax).toNat < n → ∀ (H : Heap) (locs : List Loc), va_P (dC, dI) kxCl (mW mo ma cs I F) H → va_D A (mW mo ma cs I F) → va_S A s.heap H locs → ∀ ls : Array Slot, lv_has ls 4 [(3, .int (iz ax)), (0, .ref mo), (1, .int (iz p0)), (2, .int (iz lev))] → W p l e (headSpec [.code yX6_wayOf cX6_wayOf 4 (some .int)] ({ frames := 0, cells := 0, slots := 0, locals := 0 })).room s m ([.ref mo, .int (iz p0), .int (iz lev)] : List Value).toArray below meth c H locs 0 0 QQ (F0 m 2 ls []) := by
    intro n
    induction n with
    | zero => intro ax hinv hm; exact absurd hm (Nat.not_lt_zero _)
    | succ n ih2 =>
      intro ax hinv hm H locs hP hD hS ls hl
      have hax := hinv
      have hlva := hlv ax (by omega) (by omega)
      refine lv_aload_n hx hb dX6_wayOf_2 rfl (lv_at hl 1 rfl) ?_
      refine va_get (D := (dC, dI)) (ci := 6) (v := .ref (ma 2)) (C := RX6) (T := TX6) (N := 44) hx hb hts kt_X6 hown hK hP 0 rfl rfl 2 (by decide) (kx_word hG kq_04_msmall_12 rfl) (fun _ h9 => h9) rfl dX6_wayOf_3 ?_
      refine lv_iload_n hx hb dX6_wayOf_6 rfl (lv_at hl 0 rfl) ?_
      refine ki_iald (F := F 2) hx hb hK hP 1 0 rfl rfl (by omega) (by omega) (by decide) dX6_wayOf_7 ?_
      have hbd_1 := hB.2 2 ax
      refine lv_iload_n hx hb dX6_wayOf_8 rfl (lv_at hl 3 rfl) ?_
      refine ki_icmp_le (tgt := 27) hx hb dX6_wayOf_9 (by decide) (by omega) (by omega) (by omega) (by omega) (fun c_2 => ?_) (fun c_2 => ?_)
      · skip
        refine lv_aload_n hx hb dX6_wayOf_27 rfl (lv_at hl 1 rfl) ?_
        refine va_get (D := (dC, dI)) (ci := 6) (v := .ref (ma 2)) (C := RX6) (T := TX6) (N := 44) hx hb hts kt_X6 hown hK hP 0 rfl rfl 2 (by decide) (kx_word hG kq_04_msmall_12 rfl) (fun _ h9 => h9) rfl dX6_wayOf_28 ?_
        refine lv_iload_n hx hb dX6_wayOf_31 rfl (lv_at hl 0 rfl) ?_
        refine ki_iald (F := F 2) hx hb hK hP 1 0 rfl rfl (by omega) (by omega) (by decide) dX6_wayOf_32 ?_
        refine lv_iload_n hx hb dX6_wayOf_33 rfl (lv_at hl 3 rfl) ?_
        refine ki_icmp_ne (tgt := 41) hx hb dX6_wayOf_34 (by decide) (by omega) (by omega) (by omega) (by omega) (fun c_3 => ?_) (fun c_3 => ?_)
        · skip
          refine lv_iconst (v := iz (-1)) hx hb dX6_wayOf_41 (by decide) ?_
          rw [← hQe]
          exact mk_ireti hx hb hr hlocks hP hD hK hS dX6_wayOf_42 (⟨rfl, rfl, by omega, by omega⟩)
        · skip
          refine lv_iload_n hx hb dX6_wayOf_37 rfl (lv_at hl 0 rfl) ?_
          refine lv_goto (tgt := 42) hx hb dX6_wayOf_38 (by decide) ?_
          rw [← hQe]
          exact mk_ireti hx hb hr hlocks hP hD hK hS dX6_wayOf_42 (⟨rfl, rfl, by omega, by omega⟩)
      · skip
        refine lv_aload_n hx hb dX6_wayOf_12 rfl (lv_at hl 1 rfl) ?_
        refine va_get (D := (dC, dI)) (ci := 6) (v := .ref (ma 17)) (C := RX6) (T := TX6) (N := 44) hx hb hts kt_X6 hown hK hP 0 rfl rfl 17 (by decide) (kx_word hG kq_06_mway_15 rfl) (fun _ h9 => h9) rfl dX6_wayOf_13 ?_
        refine lv_aload_n hx hb dX6_wayOf_16 rfl (lv_at hl 1 rfl) ?_
        refine va_get (D := (dC, dI)) (ci := 6) (v := .ref (ma 3)) (C := RX6) (T := TX6) (N := 44) hx hb hts kt_X6 hown hK hP 0 rfl rfl 3 (by decide) (kx_word hG kq_04_msmall_13 rfl) (fun _ h9 => h9) rfl dX6_wayOf_17 ?_
        refine lv_iload_n hx hb dX6_wayOf_20 rfl (lv_at hl 0 rfl) ?_
        refine ki_iald (F := F 3) hx hb hK hP 2 1 rfl rfl (by omega) (by omega) (by decide) dX6_wayOf_21 ?_
        have hbd_4 := hB.2 3 ax
        refine ki_iald (F := F 17) hx hb hK hP 13 12 rfl rfl (by omega) (by omega) (by decide) dX6_wayOf_22 ?_
        have hbd_5 := hB.2 17 (F 3 ax)
        have hsa := hsm (F 3 ax) (by omega) (by omega)
        refine lv_istore_n (lv' := [(3, .int (iz (F 17 (F 3 ax)))), (0, .ref mo), (1, .int (iz p0)), (2, .int (iz lev))]) hx hb dX6_wayOf_23 rfl hl (by decide) rfl (fun ls hl => ?_)
        refine lv_goto (tgt := 2) hx hb dX6_wayOf_24 (by decide) ?_
        exact ih2 (F 17 (F 3 ax)) (by omega) (by omega) _ _ hP hD hS ls (lv_sub hl [0, 1, 2, 3] rfl)
  exact lp2 _ p0 (by omega) (Nat.lt_succ_self _) _ _ hP hD hS ls (lv_sub hl [0, 1, 2, 3] rfl)
set_option maxHeartbeats 4000000 in
set_option maxRecDepth 100000 in
theorem k_isBefore (l : Launch) (dC : Nat → ClassId) (dI : Nat → Nat → Nat) (mo : Nat) (ma : Nat → Nat) (cs : Nat → ClassId) (I : Nat → Int) (F : Nat → Int → Int) (p0 : Int) (p1 : Int) (nn : Int) (sz : Nat) (hB : mB I F) (hc : 0 ≤ I 1 ∧ I 1 ≤ 64) (hn : ∀ e, 0 ≤ F 5 e ∧ F 5 e ≤ 20) (hlv : mLv I F) (hsm : mSm nn F) (h0 : 0 ≤ p0 ∧ p0 < I 1 ∧ p0 ≤ nn) (h1 : 0 ≤ p1 ∧ p1 < I 1 ∧ p1 ≤ nn) : mMi l yX6_isBefore (.code yX6_isBefore cX6_isBefore 7 (some .boolean)) 3 72 dC dI mo ma cs I F [.ref mo, .int (iz p0), .int (iz p1)] sz (fun (r : Int) (I' : Nat → Int) (F' : Nat → Int → Int) => I = I' ∧ mB I F' ∧ mfr [] [20, 21, 22, 23, 24] I F I F' ∧ (r = 0 ∨ r = 1)) := by
  refine Met.ofW (cc := cX6_isBefore) (maxL := 7) (ret := (some .boolean)) (by decide) rfl ?_
  intro p e s m args below meth c s₁ B hml hv
  obtain ⟨rfl, hsz, hP, hK, hD0, hG, hZ⟩ := hv
  have hx := B.exec
  have hb := B.bytes
  have hr := B.returns
  have hts := kx_hts (a := ([.ref mo, .int (iz p0), .int (iz p1)] : List Value).toArray) hG
  have hown : s.vm.findClass RX6 = some m.cls := findClass_of_methodNamed B.named
  have hlocks := B.notSynchronized
  subst hsz
  have hD := hD0.self (sz := s.heap.size)
  generalize hAe : va_A (mW mo ma cs I F) s.heap.size = A at hD hZ ⊢
  have hA : ∀ q : Nat, s.heap.size ≤ q → A q := fun q h => by rw [← hAe]; exact Or.inr h
  have hS : va_S A s.heap s.heap [] := va_S.rf
  have hl := lv_entry ([.ref mo, .int (iz p0), .int (iz p1)]) (n := 7) (Nat.le_of_ble_eq_true rfl)
  rw [lg_entry_eq]
  generalize (lg_sl ([.ref mo, .int (iz p0), .int (iz p1)]) ++ List.replicate (7 - (lg_sl ([.ref mo, .int (iz p0), .int (iz p1)])).length) Slot.unset).toArray = ls at hl ⊢
  have hl : lv_has ls 7 [(0, .ref mo), (1, .int (iz p0)), (2, .int (iz p1))] := hl
  generalize hQe : MQ below (mQi dC dI mo ma cs A (fun (r : Int) (I' : Nat → Int) (F' : Nat → Int → Int) => I = I' ∧ mB I F' ∧ mfr [] [20, 21, 22, 23, 24] I F I F' ∧ (r = 0 ∨ r = 1))) ([.ref mo, .int (iz p0), .int (iz p1)] : List Value).toArray s 0 0 A = QQ
  refine lv_iconst (v := iz 0) hx hb dX6_isBefore_0 (by decide) ?_
  refine lv_istore_n (lv' := [(3, .int (iz 0)), (0, .ref mo), (1, .int (iz p0)), (2, .int (iz p1))]) hx hb dX6_isBefore_1 rfl hl (by decide) rfl (fun ls hl => ?_)
  have lp2 : ∀ (n : Nat) (le : Int), ((0 ≤ le ∧ le ≤ 3)) → (3 - le).toNat < n → ∀ (H : Heap) (locs : List Loc), va_P (dC, dI) kxCl (mW mo ma cs I F) H → va_D A (mW mo ma cs I F) → va_S A s.heap H locs → ∀ ls : Array Slot, lv_has ls 7 [(3, .int (iz le)), (0, .ref mo), (1, .int (iz p0)), (2, .int (iz p1))] → W p l e (headSpec [.code yX6_isBefore cX6_isBefore 7 (some .boolean)] ({ frames := 3, cells := 0, slots := 0, locals := 72 })).room s m ([.ref mo, .int (iz p0), .int (iz p1)] : List Value).toArray below meth c H locs 0 0 QQ (F0 m 2 ls []) := by
    intro n
    induction n with
    | zero => intro le hinv hm; exact absurd hm (Nat.not_lt_zero _)
    | succ n ih2 =>
      intro le hinv hm H locs hP hD hS ls hl
      have hle := hinv
      refine lv_iload_n hx hb dX6_isBefore_2 rfl (lv_at hl 0 rfl) ?_
      refine lv_iconst (v := iz 3) hx hb dX6_isBefore_3 (by decide) ?_
      refine ki_icmp_ge (tgt := 89) hx hb dX6_isBefore_4 (by decide) (by omega) (by omega) (by omega) (by omega) (fun c_1 => ?_) (fun c_1 => ?_)
      · skip
        refine lv_iconst (v := iz 0) hx hb dX6_isBefore_89 (by decide) ?_
        rw [← hQe]
        exact mk_iretz hx hb hr hlocks hP hD hK hS dX6_isBefore_90 (by omega) (⟨rfl, hB, mfr.rf, by omega⟩)
      · skip
        refine lv_aload_n hx hb dX6_isBefore_7 rfl (lv_at hl 1 rfl) ?_
        refine lv_iload_n hx hb dX6_isBefore_8 rfl (lv_at hl 2 rfl) ?_
        refine lv_iload_n hx hb dX6_isBefore_9 rfl (lv_at hl 0 rfl) ?_
        refine mk_calli (As := [.int (iz p0), .int (iz le)]) (rest := []) ⟨hx, hb, hml, hown, hts⟩ (k_wayOf l dC dI mo ma cs I F p0 le nn H.size hB hc hlv hsm h0 (by omega)) (cwV 2 hts (kx_gV kq_06_mway_16 kq_06_mway_17 kq_06_mway_18 kq_04_msmall_6 kq_06_mway_19 rfl) rfl rfl rfl (by decide +kernel) ⟨Nat.le_of_ble_eq_true rfl, Nat.le_of_ble_eq_true rfl⟩) hP hD hK hG hZ hS hA rfl hl.1 rfl (Nat.le_of_ble_eq_true rfl) dX6_isBefore_10 ⟨Nat.le_of_ble_eq_true rfl, Nat.le_of_ble_eq_true rfl⟩ (fun z_2 I_4 F_5 H locs hq_3 hP hD hS => ?_)
        try dsimp only at hq_3
        obtain ⟨rfl, rfl, hq_3⟩ := hq_3
        refine lv_istore (lv' := [(4, .int (iz z_2)), (3, .int (iz le)), (0, .ref mo), (1, .int (iz p0)), (2, .int (iz p1))]) hx hb dX6_isBefore_13 hl (by decide) rfl (fun ls hl => ?_)
        refine lv_aload_n hx hb dX6_isBefore_15 rfl (lv_at hl 2 rfl) ?_
        refine lv_iload_n hx hb dX6_isBefore_16 rfl (lv_at hl 4 rfl) ?_
        refine lv_iload_n hx hb dX6_isBefore_17 rfl (lv_at hl 1 rfl) ?_
        refine mk_calli (As := [.int (iz p1), .int (iz le)]) (rest := []) ⟨hx, hb, hml, hown, hts⟩ (k_wayOf l dC dI mo ma cs I F p1 le nn H.size hB hc hlv hsm h1 (by omega)) (cwV 2 hts (kx_gV kq_06_mway_16 kq_06_mway_17 kq_06_mway_18 kq_04_msmall_6 kq_06_mway_19 rfl) rfl rfl rfl (by decide +kernel) ⟨Nat.le_of_ble_eq_true rfl, Nat.le_of_ble_eq_true rfl⟩) hP hD hK hG hZ hS hA rfl hl.1 rfl (Nat.le_of_ble_eq_true rfl) dX6_isBefore_18 ⟨Nat.le_of_ble_eq_true rfl, Nat.le_of_ble_eq_true rfl⟩ (fun z_6 I_8 F_9 H locs hq_7 hP hD hS => ?_)
        try dsimp only at hq_7
        obtain ⟨rfl, rfl, hq_7⟩ := hq_7
        refine lv_istore (lv' := [(5, .int (iz z_6)), (4, .int (iz z_2)), (3, .int (iz le)), (0, .ref mo), (1, .int (iz p0)), (2, .int (iz p1))]) hx hb dX6_isBefore_21 hl (by decide) rfl (fun ls hl => ?_)
        refine lv_iload hx hb dX6_isBefore_23 (lv_at hl 1 rfl) ?_
        refine lv_iload hx hb dX6_isBefore_25 (lv_at hl 0 rfl) ?_
        refine ki_icmp_eq (tgt := 83) hx hb dX6_isBefore_27 (by decide) (by omega) (by omega) (by omega) (by omega) (fun c_10 => ?_) (fun c_10 => ?_)
        · skip
          refine lv_iinc (v := iz (le + 1)) (lv' := [(3, .int (iz (le + 1))), (5, .int (iz z_6)), (4, .int (iz z_2)), (0, .ref mo), (1, .int (iz p0)), (2, .int (iz p1))]) hx hb dX6_isBefore_83 hl (k := 2) rfl (iz_add le 1) (by decide) rfl (fun ls hl => ?_)
          refine lv_goto (tgt := 2) hx hb dX6_isBefore_86 (by decide) ?_
          exact ih2 (le + 1) (by omega) (by omega) _ _ hP hD hS ls (lv_sub hl [0, 3, 4, 5] rfl)
        · skip
          refine lv_iload hx hb dX6_isBefore_30 (lv_at hl 1 rfl) ?_
          refine lv_iconst (v := iz (-1)) hx hb dX6_isBefore_32 (by decide) ?_
          refine ki_icmp_ne (tgt := 40) hx hb dX6_isBefore_33 (by decide) (by omega) (by omega) (by omega) (by omega) (fun c_11 => ?_) (fun c_11 => ?_)
          · skip
            refine lv_iload hx hb dX6_isBefore_40 (lv_at hl 0 rfl) ?_
            refine lv_iconst (v := iz (-1)) hx hb dX6_isBefore_42 (by decide) ?_
            refine ki_icmp_ne (tgt := 50) hx hb dX6_isBefore_43 (by decide) (by omega) (by omega) (by omega) (by omega) (fun c_12 => ?_) (fun c_12 => ?_)
            · skip
              refine lv_aload_n hx hb dX6_isBefore_50 rfl (lv_at hl 3 rfl) ?_
              refine lv_iload hx hb dX6_isBefore_51 (lv_at hl 1 rfl) ?_
              refine lv_iload hx hb dX6_isBefore_53 (lv_at hl 0 rfl) ?_
              refine mk_calli (As := [.int (iz z_2), .int (iz z_6)]) (rest := []) ⟨hx, hb, hml, hown, hts⟩ (k_orderOf l dC dI mo ma cs I F z_2 z_6 H.size hB (by omega) (by omega) hn) (cwV 2 hts (kx_gV kq_06_mway_20 kq_06_mway_21 kq_06_mway_22 kq_04_msmall_6 kq_06_mway_23 rfl) rfl rfl rfl (by decide +kernel) ⟨Nat.le_of_ble_eq_true rfl, Nat.le_of_ble_eq_true rfl⟩) hP hD hK hG hZ hS hA rfl hl.1 rfl (Nat.le_of_ble_eq_true rfl) dX6_isBefore_55 ⟨Nat.le_of_ble_eq_true rfl, Nat.le_of_ble_eq_true rfl⟩ (fun z_13 I_15 F_16 H locs hq_14 hP hD hS => ?_)
              try dsimp only at hq_14
              obtain ⟨rfl, hB17, hf17, hr17⟩ := hq_14
              refine lv_istore (lv' := [(6, .int (iz z_13)), (5, .int (iz z_6)), (4, .int (iz z_2)), (3, .int (iz le)), (0, .ref mo), (1, .int (iz p0)), (2, .int (iz p1))]) hx hb dX6_isBefore_58 hl (by decide) rfl (fun ls hl => ?_)
              refine lv_iload hx hb dX6_isBefore_60 (lv_at hl 0 rfl) ?_
              refine ki_if_lt (tgt := 77) hx hb dX6_isBefore_62 (by decide) (by omega) (by omega) (fun c_18 => ?_) (fun c_18 => ?_)
              · skip
                refine lv_iconst (v := iz 1) hx hb dX6_isBefore_77 (by decide) ?_
                refine lv_goto (tgt := 82) hx hb dX6_isBefore_78 (by decide) ?_
                rw [← hQe]
                exact mk_iretz hx hb hr hlocks hP hD hK hS dX6_isBefore_82 (by omega) (⟨rfl, hB17, hf17, by omega⟩)
              · skip
                refine lv_iload hx hb dX6_isBefore_65 (lv_at hl 0 rfl) ?_
                refine ki_if_ne (tgt := 81) hx hb dX6_isBefore_67 (by decide) (by omega) (by omega) (fun c_19 => ?_) (fun c_19 => ?_)
                · skip
                  refine lv_iconst (v := iz 0) hx hb dX6_isBefore_81 (by decide) ?_
                  rw [← hQe]
                  exact mk_iretz hx hb hr hlocks hP hD hK hS dX6_isBefore_82 (by omega) (⟨rfl, hB17, hf17, by omega⟩)
                · skip
                  refine lv_iload hx hb dX6_isBefore_70 (lv_at hl 2 rfl) ?_
                  refine lv_iload hx hb dX6_isBefore_72 (lv_at hl 1 rfl) ?_
                  refine ki_icmp_ge (tgt := 81) hx hb dX6_isBefore_74 (by decide) (by omega) (by omega) (by omega) (by omega) (fun c_20 => ?_) (fun c_20 => ?_)
                  · skip
                    refine lv_iconst (v := iz 0) hx hb dX6_isBefore_81 (by decide) ?_
                    rw [← hQe]
                    exact mk_iretz hx hb hr hlocks hP hD hK hS dX6_isBefore_82 (by omega) (⟨rfl, hB17, hf17, by omega⟩)
                  · skip
                    refine lv_iconst (v := iz 1) hx hb dX6_isBefore_77 (by decide) ?_
                    refine lv_goto (tgt := 82) hx hb dX6_isBefore_78 (by decide) ?_
                    rw [← hQe]
                    exact mk_iretz hx hb hr hlocks hP hD hK hS dX6_isBefore_82 (by omega) (⟨rfl, hB17, hf17, by omega⟩)
            · skip
              refine lv_iconst (v := iz 1) hx hb dX6_isBefore_46 (by decide) ?_
              refine lv_goto (tgt := 58) hx hb dX6_isBefore_47 (by decide) ?_
              refine lv_istore (lv' := [(6, .int (iz 1)), (5, .int (iz z_6)), (4, .int (iz z_2)), (3, .int (iz le)), (0, .ref mo), (1, .int (iz p0)), (2, .int (iz p1))]) hx hb dX6_isBefore_58 hl (by decide) rfl (fun ls hl => ?_)
              refine lv_iload hx hb dX6_isBefore_60 (lv_at hl 0 rfl) ?_
              refine ki_if_lt (tgt := 77) hx hb dX6_isBefore_62 (by decide) (by omega) (by omega) (fun c_21 => ?_) (fun c_21 => ?_)
              · omega
              · skip
                refine lv_iload hx hb dX6_isBefore_65 (lv_at hl 0 rfl) ?_
                refine ki_if_ne (tgt := 81) hx hb dX6_isBefore_67 (by decide) (by omega) (by omega) (fun c_22 => ?_) (fun c_22 => ?_)
                · skip
                  refine lv_iconst (v := iz 0) hx hb dX6_isBefore_81 (by decide) ?_
                  rw [← hQe]
                  exact mk_iretz hx hb hr hlocks hP hD hK hS dX6_isBefore_82 (by omega) (⟨rfl, hB, mfr.rf, by omega⟩)
                · omega
          · skip
            refine lv_iconst (v := iz (-1)) hx hb dX6_isBefore_36 (by decide) ?_
            refine lv_goto (tgt := 58) hx hb dX6_isBefore_37 (by decide) ?_
            refine lv_istore (lv' := [(6, .int (iz (-1))), (5, .int (iz z_6)), (4, .int (iz z_2)), (3, .int (iz le)), (0, .ref mo), (1, .int (iz p0)), (2, .int (iz p1))]) hx hb dX6_isBefore_58 hl (by decide) rfl (fun ls hl => ?_)
            refine lv_iload hx hb dX6_isBefore_60 (lv_at hl 0 rfl) ?_
            refine ki_if_lt (tgt := 77) hx hb dX6_isBefore_62 (by decide) (by omega) (by omega) (fun c_23 => ?_) (fun c_23 => ?_)
            · skip
              refine lv_iconst (v := iz 1) hx hb dX6_isBefore_77 (by decide) ?_
              refine lv_goto (tgt := 82) hx hb dX6_isBefore_78 (by decide) ?_
              rw [← hQe]
              exact mk_iretz hx hb hr hlocks hP hD hK hS dX6_isBefore_82 (by omega) (⟨rfl, hB, mfr.rf, by omega⟩)
            · omega
  exact lp2 _ 0 (by omega) (Nat.lt_succ_self _) _ _ hP hD hS ls (lv_sub hl [0, 1, 2, 3] rfl)
