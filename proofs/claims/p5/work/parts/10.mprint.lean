/-! the reference: the parts of a print -/
theorem mFd.fr {I J : Nat → Int} (h : mFd I) (h1 : J 32 = I 32) (h2 : J 33 = I 33) : mFd J := by
  unfold mFd
  rw [h1, h2]
  exact h
theorem mDr.fr {I J : Nat → Int} (h : mDr I) (h1 : J 42 = I 42) (h2 : J 43 = I 43) : mDr J := by
  unfold mDr
  rw [h1, h2]
  exact h
def mPS (I : Nat → Int) (F : Nat → Int → Int) : Prop := mDr I ∧ mFd I ∧ (0 ≤ I 29 ∧ I 29 ≤ 1700) ∧ mGt (I 29) F
theorem mPS.put {I J : Nat → Int} {F G : Nat → Int → Int} (h : mPS I F) (hf : mfr [42, 43] [41] I F J G) (hd : mDr J) : mPS J G :=
  ⟨hd, h.2.1.fr (hf.1 32 (by decide)) (hf.1 33 (by decide)), by rw [hf.1 29 (by decide)]; exact h.2.2.1, by rw [hf.1 29 (by decide)]; exact h.2.2.2.fr (hf.2 26 (by decide)) (hf.2 27 (by decide))⟩
theorem mPS.gat {I J : Nat → Int} {F G : Nat → Int → Int} (h : mPS I F) (hf : mfr [29] [25, 26, 27, 28] I F J G) (hg : 0 ≤ J 29 ∧ J 29 ≤ 1600) (hy : mGt (J 29) G) : mPS J G :=
  ⟨h.1.fr (hf.1 42 (by decide)) (hf.1 43 (by decide)), h.2.1.fr (hf.1 32 (by decide)) (hf.1 33 (by decide)), by omega, hy⟩
theorem mPS.loc {I J : Nat → Int} {F : Nat → Int → Int} (h : mPS I F) (hf : mfr [31, 32, 33] [] I F J F) (hd : mFd J) : mPS J F :=
  ⟨h.1.fr (hf.1 42 (by decide)) (hf.1 43 (by decide)), hd, by rw [hf.1 29 (by decide)]; exact h.2.2.1, by rw [hf.1 29 (by decide)]; exact h.2.2.2⟩
theorem mPS.scr {I : Nat → Int} {F G : Nat → Int → Int} (h : mPS I F) (hf : mfr [] [20, 21, 22, 23, 24] I F I G) : mPS I G :=
  ⟨h.1, h.2.1, h.2.2.1, h.2.2.2.fr (hf.2 26 (by decide)) (hf.2 27 (by decide))⟩
theorem mPS.shw {I J : Nat → Int} {F G : Nat → Int → Int} (h : mPS I F) (hf : mfr [35, 42, 43] [34, 41] I F J G) (hd : mDr J) : mPS J G :=
  ⟨hd, h.2.1.fr (hf.1 32 (by decide)) (hf.1 33 (by decide)), by rw [hf.1 29 (by decide)]; exact h.2.2.1, by rw [hf.1 29 (by decide)]; exact h.2.2.2.fr (hf.2 26 (by decide)) (hf.2 27 (by decide))⟩
theorem kq_10_mprint_0 : (Cond.methodLink RX6 193 yX6_gather) ∈ lw_tbl := by decide +kernel
theorem kq_10_mprint_1 : (Cond.instanceMethod yX6_gather) ∈ lw_tbl := by decide +kernel
theorem kq_10_mprint_2 : (Cond.selects RX6 yX6_gather yX6_gather) ∈ lw_tbl := by decide +kernel
theorem kq_10_mprint_3 : (Cond.code yX6_gather cX6_gather 4 none) ∈ lw_tbl := by decide +kernel
theorem kq_10_mprint_4 : (Cond.methodLink RX6 196 yX6_locate) ∈ lw_tbl := by decide +kernel
theorem kq_10_mprint_5 : (Cond.instanceMethod yX6_locate) ∈ lw_tbl := by decide +kernel
theorem kq_10_mprint_6 : (Cond.selects RX6 yX6_locate yX6_locate) ∈ lw_tbl := by decide +kernel
theorem kq_10_mprint_7 : (Cond.code yX6_locate cX6_locate 10 (some .int)) ∈ lw_tbl := by decide +kernel
theorem kq_10_mprint_8 : (Cond.methodLink RX6 235 yX6_putOne) ∈ lw_tbl := by decide +kernel
theorem kq_10_mprint_9 : (Cond.instanceMethod yX6_putOne) ∈ lw_tbl := by decide +kernel
theorem kq_10_mprint_10 : (Cond.selects RX6 yX6_putOne yX6_putOne) ∈ lw_tbl := by decide +kernel
theorem kq_10_mprint_11 : (Cond.code yX6_putOne cX6_putOne 3 none) ∈ lw_tbl := by decide +kernel
theorem kq_10_mprint_12 : (Cond.methodLink RX6 199 yX6_gatherShown) ∈ lw_tbl := by decide +kernel
theorem kq_10_mprint_13 : (Cond.instanceMethod yX6_gatherShown) ∈ lw_tbl := by decide +kernel
theorem kq_10_mprint_14 : (Cond.selects RX6 yX6_gatherShown yX6_gatherShown) ∈ lw_tbl := by decide +kernel
theorem kq_10_mprint_15 : (Cond.code yX6_gatherShown cX6_gatherShown 7 none) ∈ lw_tbl := by decide +kernel
theorem kq_10_mprint_16 : (Cond.methodLink RX6 238 yX6_putSigns) ∈ lw_tbl := by decide +kernel
theorem kq_10_mprint_17 : (Cond.instanceMethod yX6_putSigns) ∈ lw_tbl := by decide +kernel
theorem kq_10_mprint_18 : (Cond.selects RX6 yX6_putSigns yX6_putSigns) ∈ lw_tbl := by decide +kernel
theorem kq_10_mprint_19 : (Cond.code yX6_putSigns cX6_putSigns 3 none) ∈ lw_tbl := by decide +kernel
theorem kq_10_mprint_20 : (Cond.methodLink RX6 244 yX6_putShown) ∈ lw_tbl := by decide +kernel
theorem kq_10_mprint_21 : (Cond.instanceMethod yX6_putShown) ∈ lw_tbl := by decide +kernel
theorem kq_10_mprint_22 : (Cond.selects RX6 yX6_putShown yX6_putShown) ∈ lw_tbl := by decide +kernel
theorem kq_10_mprint_23 : (Cond.code yX6_putShown cX6_putShown 3 none) ∈ lw_tbl := by decide +kernel
theorem kq_10_mprint_24 : (Cond.methodLink RX6 241 yX6_putAll) ∈ lw_tbl := by decide +kernel
theorem kq_10_mprint_25 : (Cond.instanceMethod yX6_putAll) ∈ lw_tbl := by decide +kernel
theorem kq_10_mprint_26 : (Cond.selects RX6 yX6_putAll yX6_putAll) ∈ lw_tbl := by decide +kernel
theorem kq_10_mprint_27 : (Cond.code yX6_putAll cX6_putAll 5 none) ∈ lw_tbl := by decide +kernel
theorem kq_10_mprint_28 : (Cond.methodLink RX6 202 yX6_groupOf) ∈ lw_tbl := by decide +kernel
theorem kq_10_mprint_29 : (Cond.instanceMethod yX6_groupOf) ∈ lw_tbl := by decide +kernel
theorem kq_10_mprint_30 : (Cond.selects RX6 yX6_groupOf yX6_groupOf) ∈ lw_tbl := by decide +kernel
theorem kq_10_mprint_31 : (Cond.code yX6_groupOf cX6_groupOf 3 (some .int)) ∈ lw_tbl := by decide +kernel
set_option maxHeartbeats 4000000 in
set_option maxRecDepth 100000 in
theorem k_putAll (l : Launch) (dC : Nat → ClassId) (dI : Nat → Nat → Nat) (mo : Nat) (ma : Nat → Nat) (cs : Nat → ClassId) (I : Nat → Int) (F : Nat → Int → Int) (p0 : Int) (sz : Nat) (hB : mB I F) (hc : 0 ≤ I 1 ∧ I 1 ≤ 64) (hln : ∀ e, 0 ≤ F 10 e ∧ 0 ≤ F 11 e ∧ F 11 e ≤ 99999 ∧ F 10 e + (if 0 < F 11 e then 1 else 0) ≤ 20) (hmf : mFt F) (hps : mPS I F) (hp01 : -2147483648 ≤ p0) (hp02 : p0 < 2147483648) : mMv l yX6_putAll (.code yX6_putAll cX6_putAll 5 none) 4 87 dC dI mo ma cs I F [.ref mo, .int (iz p0)] sz (fun (I' : Nat → Int) (F' : Nat → Int → Int) => mB I' F' ∧ mfr [29, 31, 32, 33, 42, 43] [25, 26, 27, 28, 41] I F I' F' ∧ mPS I' F') := by
  refine Met.ofW (cc := cX6_putAll) (maxL := 5) (ret := none) (by decide) rfl ?_
  intro p e s m args below meth c s₁ B hml hv
  obtain ⟨rfl, hsz, hP, hK, hD0, hG, hZ⟩ := hv
  have hx := B.exec
  have hb := B.bytes
  have hr := B.returns
  have hts := kx_hts (a := ([.ref mo, .int (iz p0)] : List Value).toArray) hG
  have hown : s.vm.findClass RX6 = some m.cls := findClass_of_methodNamed B.named
  have hlocks := B.notSynchronized
  subst hsz
  have hD := hD0.self (sz := s.heap.size)
  generalize hAe : va_A (mW mo ma cs I F) s.heap.size = A at hD hZ ⊢
  have hA : ∀ q : Nat, s.heap.size ≤ q → A q := fun q h => by rw [← hAe]; exact Or.inr h
  have hS : va_S A s.heap s.heap [] := va_S.rf
  have hl := lv_entry ([.ref mo, .int (iz p0)]) (n := 5) (Nat.le_of_ble_eq_true rfl)
  rw [lg_entry_eq]
  generalize (lg_sl ([.ref mo, .int (iz p0)]) ++ List.replicate (5 - (lg_sl ([.ref mo, .int (iz p0)])).length) Slot.unset).toArray = ls at hl ⊢
  have hl : lv_has ls 5 [(0, .ref mo), (1, .int (iz p0))] := hl
  generalize hQe : MQ below (mQv dC dI mo ma cs A (fun (I' : Nat → Int) (F' : Nat → Int → Int) => mB I' F' ∧ mfr [29, 31, 32, 33, 42, 43] [25, 26, 27, 28, 41] I F I' F' ∧ mPS I' F')) ([.ref mo, .int (iz p0)] : List Value).toArray s 0 0 A = QQ
  refine lv_aload_n hx hb dX6_putAll_0 rfl (lv_at hl 0 rfl) ?_
  refine lv_iload_n hx hb dX6_putAll_1 rfl (lv_at hl 1 rfl) ?_
  have hac_1 : mfr [29, 31, 32, 33, 42, 43] [25, 26, 27, 28, 41] I F I F := mfr.rf
  refine mk_callv (As := [.int (iz p0)]) (rest := []) ⟨hx, hb, hml, hown, hts⟩ (k_gather l dC dI mo ma cs I F p0 s.heap.size hB (by rw [(hac_1.1 1 (by decide))]; exact hc) (fun e => by rw [(hac_1.2 10 (by decide)), (hac_1.2 11 (by decide))]; exact hln e) (fun j => by rw [(hac_1.2 7 (by decide)), (hac_1.2 8 (by decide))]; exact hmf j) (by omega) (by omega)) (cwV 1 hts (kx_gV kq_10_mprint_0 kq_10_mprint_1 kq_10_mprint_2 kq_04_msmall_6 kq_10_mprint_3 rfl) rfl rfl rfl (by decide +kernel) ⟨Nat.le_of_ble_eq_true rfl, Nat.le_of_ble_eq_true rfl⟩) hP hD hK hG hZ hS hA rfl hl.1 rfl (Nat.le_of_ble_eq_true rfl) dX6_putAll_2 ⟨Nat.le_of_ble_eq_true rfl, Nat.le_of_ble_eq_true rfl⟩ (fun I_4 F_5 H locs hq_3 hP hD hS => ?_)
  try dsimp only at hq_3
  obtain ⟨hB6, hf6, hg6, hy6⟩ := hq_3
  have hp6 := mPS.gat hps hf6 hg6 hy6
  refine lv_aload_n hx hb dX6_putAll_5 rfl (lv_at hl 0 rfl) ?_
  refine lv_iconst (v := iz (-1)) hx hb dX6_putAll_6 (by decide) ?_
  have hac_7 : mfr [29, 31, 32, 33, 42, 43] [25, 26, 27, 28, 41] I F I_4 F_5 := (mfr.rf.tr (hf6.mono (by decide) (by decide)))
  refine mk_calli (As := [.int (iz (-1))]) (rest := []) ⟨hx, hb, hml, hown, hts⟩ (k_locate l dC dI mo ma cs I_4 F_5 (-1) H.size hB6 hp6.2.2.1 hp6.2.2.2 hp6.2.1 (by omega) (by omega)) (cwV 1 hts (kx_gV kq_10_mprint_4 kq_10_mprint_5 kq_10_mprint_6 kq_04_msmall_6 kq_10_mprint_7 rfl) rfl rfl rfl (by decide +kernel) ⟨Nat.le_of_ble_eq_true rfl, Nat.le_of_ble_eq_true rfl⟩) hP hD hK hG hZ hS hA rfl hl.1 rfl (Nat.le_of_ble_eq_true rfl) dX6_putAll_7 ⟨Nat.le_of_ble_eq_true rfl, Nat.le_of_ble_eq_true rfl⟩ (fun z_8 I_10 F_11 H locs hq_9 hP hD hS => ?_)
  try dsimp only at hq_9
  obtain ⟨rfl, hB12, hf12, hd12, hr12⟩ := hq_9
  have hp12 := mPS.loc hp6 hf12 hd12
  refine lv_istore_n (lv' := [(2, .int (iz z_8)), (0, .ref mo), (1, .int (iz p0))]) hx hb dX6_putAll_10 rfl hl (by decide) rfl (fun ls hl => ?_)
  refine lv_iconst (v := iz 0) hx hb dX6_putAll_11 (by decide) ?_
  refine lv_istore_n (lv' := [(3, .int (iz 0)), (2, .int (iz z_8)), (0, .ref mo), (1, .int (iz p0))]) hx hb dX6_putAll_12 rfl hl (by decide) rfl (fun ls hl => ?_)
  have lp13 : ∀ (n : Nat) (j : Int) (J : Nat → Int) (G : Nat → Int → Int), ((mB J G) ∧ (mfr [29, 31, 32, 33, 42, 43] [25, 26, 27, 28, 41] I F J G) ∧ (mPS J G) ∧ (0 ≤ j ∧ j ≤ 3400)) → (z_8 - j).toNat < n → ∀ (H : Heap) (locs : List Loc), va_P (dC, dI) kxCl (mW mo ma cs J G) H → va_D A (mW mo ma cs J G) → va_S A s.heap H locs → ∀ ls : Array Slot, lv_has ls 5 [(3, .int (iz j)), (2, .int (iz z_8)), (0, .ref mo), (1, .int (iz p0))] → W p l e (headSpec [.code yX6_putAll cX6_putAll 5 none] ({ frames := 4, cells := 0, slots := 0, locals := 87 })).room s m ([.ref mo, .int (iz p0)] : List Value).toArray below meth c H locs 0 0 QQ (F0 m 13 ls []) := by
    intro n
    induction n with
    | zero => intro j J G hinv hm; exact absurd hm (Nat.not_lt_zero _)
    | succ n ih13 =>
      intro j J G hinv hm H locs hP hD hS ls hl
      obtain ⟨hBJ, hfJ, hpJ, hj⟩ := hinv
      refine lv_iload_n hx hb dX6_putAll_13 rfl (lv_at hl 0 rfl) ?_
      refine lv_iload_n hx hb dX6_putAll_14 rfl (lv_at hl 1 rfl) ?_
      refine ki_icmp_ge (tgt := 84) hx hb dX6_putAll_15 (by decide) (by omega) (by omega) (by omega) (by omega) (fun c_13 => ?_) (fun c_13 => ?_)
      · skip
        rw [← hQe]
        exact mk_ret hx hb hr hlocks hP hD hK hS dX6_putAll_84 (⟨hBJ, hfJ, hpJ⟩)
      · skip
        refine lv_aload_n hx hb dX6_putAll_18 rfl (lv_at hl 2 rfl) ?_
        refine lv_iload_n hx hb dX6_putAll_19 rfl (lv_at hl 0 rfl) ?_
        have hac_14 : mfr [29, 31, 32, 33, 42, 43] [25, 26, 27, 28, 41] I F J G := hfJ
        refine mk_calli (As := [.int (iz j)]) (rest := []) ⟨hx, hb, hml, hown, hts⟩ (k_locate l dC dI mo ma cs J G j H.size hBJ hpJ.2.2.1 hpJ.2.2.2 hpJ.2.1 (by omega) (by omega)) (cwV 1 hts (kx_gV kq_10_mprint_4 kq_10_mprint_5 kq_10_mprint_6 kq_04_msmall_6 kq_10_mprint_7 rfl) rfl rfl rfl (by decide +kernel) ⟨Nat.le_of_ble_eq_true rfl, Nat.le_of_ble_eq_true rfl⟩) hP hD hK hG hZ hS hA rfl hl.1 rfl (Nat.le_of_ble_eq_true rfl) dX6_putAll_20 ⟨Nat.le_of_ble_eq_true rfl, Nat.le_of_ble_eq_true rfl⟩ (fun z_15 I_17 F_18 H locs hq_16 hP hD hS => ?_)
        try dsimp only at hq_16
        obtain ⟨rfl, hB19, hf19, hd19, hr19⟩ := hq_16
        have hp19 := mPS.loc hpJ hf19 hd19
        refine lv_istore (lv' := [(4, .int (iz z_15)), (3, .int (iz j)), (2, .int (iz z_8)), (0, .ref mo), (1, .int (iz p0))]) hx hb dX6_putAll_23 hl (by decide) rfl (fun ls hl => ?_)
        refine lv_iload_n hx hb dX6_putAll_25 rfl (lv_at hl 1 rfl) ?_
        refine ki_if_le (tgt := 37) hx hb dX6_putAll_26 (by decide) (by omega) (by omega) (fun c_20 => ?_) (fun c_20 => ?_)
        · skip
          refine lv_aload_n hx hb dX6_putAll_37 rfl (lv_at hl 3 rfl) ?_
          refine lv_aload_n hx hb dX6_putAll_38 rfl (lv_at hl 3 rfl) ?_
          refine va_get (D := (dC, dI)) (ci := 6) (v := .int (iz (I_17 31))) (C := RX6) (T := TX6) (N := 44) hx hb hts kt_X6 hown hK hP 0 rfl rfl 31 (by decide) (kx_word hG kq_09_mput_0 rfl) (fun _ h9 => h9) rfl dX6_putAll_39 ?_
          have hbd_21 := hB19.1 31
          refine lv_aload_n hx hb dX6_putAll_42 rfl (lv_at hl 3 rfl) ?_
          refine va_get (D := (dC, dI)) (ci := 6) (v := .int (iz (I_17 32))) (C := RX6) (T := TX6) (N := 44) hx hb hts kt_X6 hown hK hP 0 rfl rfl 32 (by decide) (kx_word hG kq_09_mput_1 rfl) (fun _ h9 => h9) rfl dX6_putAll_43 ?_
          have hbd_22 := hB19.1 32
          have hac_23 : mfr [29, 31, 32, 33, 42, 43] [25, 26, 27, 28, 41] I F I_17 G := (hfJ.tr (hf19.mono (by decide) (by decide)))
          refine mk_callv (As := [.int (iz (I_17 31)), .int (iz (I_17 32))]) (rest := []) ⟨hx, hb, hml, hown, hts⟩ (k_putOne l dC dI mo ma cs I_17 G (I_17 31) (I_17 32) H.size hB19 hp19.1 (by have h9 := hp19.2.1; unfold mFd at h9; omega) (by omega) (by omega)) (cwV 2 hts (kx_gV kq_10_mprint_8 kq_10_mprint_9 kq_10_mprint_10 kq_04_msmall_6 kq_10_mprint_11 rfl) rfl rfl rfl (by decide +kernel) ⟨Nat.le_of_ble_eq_true rfl, Nat.le_of_ble_eq_true rfl⟩) hP hD hK hG hZ hS hA rfl hl.1 rfl (Nat.le_of_ble_eq_true rfl) dX6_putAll_46 ⟨Nat.le_of_ble_eq_true rfl, Nat.le_of_ble_eq_true rfl⟩ (fun I_26 F_27 H locs hq_25 hP hD hS => ?_)
          try dsimp only at hq_25
          obtain ⟨hB28, hf28, hd28⟩ := hq_25
          have hp28 := mPS.put hp19 hf28 hd28
          refine lv_aload_n hx hb dX6_putAll_49 rfl (lv_at hl 3 rfl) ?_
          refine va_get (D := (dC, dI)) (ci := 6) (v := .int (iz (I_26 33))) (C := RX6) (T := TX6) (N := 44) hx hb hts kt_X6 hown hK hP 0 rfl rfl 33 (by decide) (kx_word hG kq_09_mput_2 rfl) (fun _ h9 => h9) rfl dX6_putAll_50 ?_
          have hbd_29 := hB28.1 33
          refine lv_aload_n hx hb dX6_putAll_53 rfl (lv_at hl 3 rfl) ?_
          refine va_get (D := (dC, dI)) (ci := 6) (v := .int (iz (I_26 32))) (C := RX6) (T := TX6) (N := 44) hx hb hts kt_X6 hown hK hP 0 rfl rfl 32 (by decide) (kx_word hG kq_09_mput_1 rfl) (fun _ h9 => h9) rfl dX6_putAll_54 ?_
          have hbd_30 := hB28.1 32
          refine ki_icmp_le (tgt := 78) hx hb dX6_putAll_57 (by decide) (by omega) (by omega) (by omega) (by omega) (fun c_31 => ?_) (fun c_31 => ?_)
          · skip
            refine lv_iinc (v := iz (j + 1)) (lv' := [(3, .int (iz (j + 1))), (4, .int (iz z_15)), (2, .int (iz z_8)), (0, .ref mo), (1, .int (iz p0))]) hx hb dX6_putAll_78 hl (k := 1) rfl (iz_add j 1) (by decide) rfl (fun ls hl => ?_)
            refine lv_goto (tgt := 13) hx hb dX6_putAll_81 (by decide) ?_
            exact ih13 (j + 1) I_26 F_27 ⟨hB28, ((hfJ.tr (hf19.mono (by decide) (by decide))).tr (hf28.mono (by decide) (by decide))), hp28, by omega⟩ (by omega) _ _ hP hD hS ls (lv_sub hl [0, 2, 3, 4] rfl)
          · skip
            refine lv_aload_n hx hb dX6_putAll_60 rfl (lv_at hl 3 rfl) ?_
            refine lv_bipush (v := iz 45) hx hb dX6_putAll_61 (by decide) ?_
            have hac_32 : mfr [29, 31, 32, 33, 42, 43] [25, 26, 27, 28, 41] I F I_26 F_27 := ((hfJ.tr (hf19.mono (by decide) (by decide))).tr (hf28.mono (by decide) (by decide)))
            refine mk_callv (As := [.int (iz 45)]) (rest := []) ⟨hx, hb, hml, hown, hts⟩ (k_put l dC dI mo ma cs I_26 F_27 45 H.size hB28 hp28.1) (cwV 1 hts (kx_gV kq_09_mput_12 kq_09_mput_13 kq_09_mput_14 kq_04_msmall_6 kq_09_mput_15 rfl) rfl rfl rfl (by decide +kernel) ⟨Nat.le_of_ble_eq_true rfl, Nat.le_of_ble_eq_true rfl⟩) hP hD hK hG hZ hS hA rfl hl.1 rfl (Nat.le_of_ble_eq_true rfl) dX6_putAll_63 ⟨Nat.le_of_ble_eq_true rfl, Nat.le_of_ble_eq_true rfl⟩ (fun I_35 F_36 H locs hq_34 hP hD hS => ?_)
            try dsimp only at hq_34
            obtain ⟨hB37, hf37, hd37⟩ := hq_34
            have hp37 := mPS.put hp28 hf37 hd37
            refine lv_aload_n hx hb dX6_putAll_66 rfl (lv_at hl 3 rfl) ?_
            refine lv_aload_n hx hb dX6_putAll_67 rfl (lv_at hl 3 rfl) ?_
            refine va_get (D := (dC, dI)) (ci := 6) (v := .int (iz (I_35 31))) (C := RX6) (T := TX6) (N := 44) hx hb hts kt_X6 hown hK hP 0 rfl rfl 31 (by decide) (kx_word hG kq_09_mput_0 rfl) (fun _ h9 => h9) rfl dX6_putAll_68 ?_
            have hbd_38 := hB37.1 31
            refine lv_aload_n hx hb dX6_putAll_71 rfl (lv_at hl 3 rfl) ?_
            refine va_get (D := (dC, dI)) (ci := 6) (v := .int (iz (I_35 33))) (C := RX6) (T := TX6) (N := 44) hx hb hts kt_X6 hown hK hP 0 rfl rfl 33 (by decide) (kx_word hG kq_09_mput_2 rfl) (fun _ h9 => h9) rfl dX6_putAll_72 ?_
            have hbd_39 := hB37.1 33
            have hac_40 : mfr [29, 31, 32, 33, 42, 43] [25, 26, 27, 28, 41] I F I_35 F_36 := (((hfJ.tr (hf19.mono (by decide) (by decide))).tr (hf28.mono (by decide) (by decide))).tr (hf37.mono (by decide) (by decide)))
            refine mk_callv (As := [.int (iz (I_35 31)), .int (iz (I_35 33))]) (rest := []) ⟨hx, hb, hml, hown, hts⟩ (k_putOne l dC dI mo ma cs I_35 F_36 (I_35 31) (I_35 33) H.size hB37 hp37.1 (by have h9 := hp37.2.1; unfold mFd at h9; omega) (by omega) (by omega)) (cwV 2 hts (kx_gV kq_10_mprint_8 kq_10_mprint_9 kq_10_mprint_10 kq_04_msmall_6 kq_10_mprint_11 rfl) rfl rfl rfl (by decide +kernel) ⟨Nat.le_of_ble_eq_true rfl, Nat.le_of_ble_eq_true rfl⟩) hP hD hK hG hZ hS hA rfl hl.1 rfl (Nat.le_of_ble_eq_true rfl) dX6_putAll_75 ⟨Nat.le_of_ble_eq_true rfl, Nat.le_of_ble_eq_true rfl⟩ (fun I_43 F_44 H locs hq_42 hP hD hS => ?_)
            try dsimp only at hq_42
            obtain ⟨hB45, hf45, hd45⟩ := hq_42
            have hp45 := mPS.put hp37 hf45 hd45
            refine lv_iinc (v := iz (j + 1)) (lv' := [(3, .int (iz (j + 1))), (4, .int (iz z_15)), (2, .int (iz z_8)), (0, .ref mo), (1, .int (iz p0))]) hx hb dX6_putAll_78 hl (k := 1) rfl (iz_add j 1) (by decide) rfl (fun ls hl => ?_)
            refine lv_goto (tgt := 13) hx hb dX6_putAll_81 (by decide) ?_
            exact ih13 (j + 1) I_43 F_44 ⟨hB45, ((((hfJ.tr (hf19.mono (by decide) (by decide))).tr (hf28.mono (by decide) (by decide))).tr (hf37.mono (by decide) (by decide))).tr (hf45.mono (by decide) (by decide))), hp45, by omega⟩ (by omega) _ _ hP hD hS ls (lv_sub hl [0, 2, 3, 4] rfl)
        · skip
          refine lv_aload_n hx hb dX6_putAll_29 rfl (lv_at hl 3 rfl) ?_
          refine lv_bipush (v := iz 44) hx hb dX6_putAll_30 (by decide) ?_
          refine lv_bipush (v := iz 32) hx hb dX6_putAll_32 (by decide) ?_
          have hac_46 : mfr [29, 31, 32, 33, 42, 43] [25, 26, 27, 28, 41] I F I_17 G := (hfJ.tr (hf19.mono (by decide) (by decide)))
          refine mk_callv (As := [.int (iz 44), .int (iz 32)]) (rest := []) ⟨hx, hb, hml, hown, hts⟩ (k_putPair l dC dI mo ma cs I_17 G 44 32 H.size hB19 hp19.1) (cwV 2 hts (kx_gV kq_09_mput_16 kq_09_mput_17 kq_09_mput_18 kq_04_msmall_6 kq_09_mput_19 rfl) rfl rfl rfl (by decide +kernel) ⟨Nat.le_of_ble_eq_true rfl, Nat.le_of_ble_eq_true rfl⟩) hP hD hK hG hZ hS hA rfl hl.1 rfl (Nat.le_of_ble_eq_true rfl) dX6_putAll_34 ⟨Nat.le_of_ble_eq_true rfl, Nat.le_of_ble_eq_true rfl⟩ (fun I_49 F_50 H locs hq_48 hP hD hS => ?_)
          try dsimp only at hq_48
          obtain ⟨hB51, hf51, hd51⟩ := hq_48
          have hp51 := mPS.put hp19 hf51 hd51
          refine lv_aload_n hx hb dX6_putAll_37 rfl (lv_at hl 3 rfl) ?_
          refine lv_aload_n hx hb dX6_putAll_38 rfl (lv_at hl 3 rfl) ?_
          refine va_get (D := (dC, dI)) (ci := 6) (v := .int (iz (I_49 31))) (C := RX6) (T := TX6) (N := 44) hx hb hts kt_X6 hown hK hP 0 rfl rfl 31 (by decide) (kx_word hG kq_09_mput_0 rfl) (fun _ h9 => h9) rfl dX6_putAll_39 ?_
          have hbd_52 := hB51.1 31
          refine lv_aload_n hx hb dX6_putAll_42 rfl (lv_at hl 3 rfl) ?_
          refine va_get (D := (dC, dI)) (ci := 6) (v := .int (iz (I_49 32))) (C := RX6) (T := TX6) (N := 44) hx hb hts kt_X6 hown hK hP 0 rfl rfl 32 (by decide) (kx_word hG kq_09_mput_1 rfl) (fun _ h9 => h9) rfl dX6_putAll_43 ?_
          have hbd_53 := hB51.1 32
          have hac_54 : mfr [29, 31, 32, 33, 42, 43] [25, 26, 27, 28, 41] I F I_49 F_50 := ((hfJ.tr (hf19.mono (by decide) (by decide))).tr (hf51.mono (by decide) (by decide)))
          refine mk_callv (As := [.int (iz (I_49 31)), .int (iz (I_49 32))]) (rest := []) ⟨hx, hb, hml, hown, hts⟩ (k_putOne l dC dI mo ma cs I_49 F_50 (I_49 31) (I_49 32) H.size hB51 hp51.1 (by have h9 := hp51.2.1; unfold mFd at h9; omega) (by omega) (by omega)) (cwV 2 hts (kx_gV kq_10_mprint_8 kq_10_mprint_9 kq_10_mprint_10 kq_04_msmall_6 kq_10_mprint_11 rfl) rfl rfl rfl (by decide +kernel) ⟨Nat.le_of_ble_eq_true rfl, Nat.le_of_ble_eq_true rfl⟩) hP hD hK hG hZ hS hA rfl hl.1 rfl (Nat.le_of_ble_eq_true rfl) dX6_putAll_46 ⟨Nat.le_of_ble_eq_true rfl, Nat.le_of_ble_eq_true rfl⟩ (fun I_57 F_58 H locs hq_56 hP hD hS => ?_)
          try dsimp only at hq_56
          obtain ⟨hB59, hf59, hd59⟩ := hq_56
          have hp59 := mPS.put hp51 hf59 hd59
          refine lv_aload_n hx hb dX6_putAll_49 rfl (lv_at hl 3 rfl) ?_
          refine va_get (D := (dC, dI)) (ci := 6) (v := .int (iz (I_57 33))) (C := RX6) (T := TX6) (N := 44) hx hb hts kt_X6 hown hK hP 0 rfl rfl 33 (by decide) (kx_word hG kq_09_mput_2 rfl) (fun _ h9 => h9) rfl dX6_putAll_50 ?_
          have hbd_60 := hB59.1 33
          refine lv_aload_n hx hb dX6_putAll_53 rfl (lv_at hl 3 rfl) ?_
          refine va_get (D := (dC, dI)) (ci := 6) (v := .int (iz (I_57 32))) (C := RX6) (T := TX6) (N := 44) hx hb hts kt_X6 hown hK hP 0 rfl rfl 32 (by decide) (kx_word hG kq_09_mput_1 rfl) (fun _ h9 => h9) rfl dX6_putAll_54 ?_
          have hbd_61 := hB59.1 32
          refine ki_icmp_le (tgt := 78) hx hb dX6_putAll_57 (by decide) (by omega) (by omega) (by omega) (by omega) (fun c_62 => ?_) (fun c_62 => ?_)
          · skip
            refine lv_iinc (v := iz (j + 1)) (lv' := [(3, .int (iz (j + 1))), (4, .int (iz z_15)), (2, .int (iz z_8)), (0, .ref mo), (1, .int (iz p0))]) hx hb dX6_putAll_78 hl (k := 1) rfl (iz_add j 1) (by decide) rfl (fun ls hl => ?_)
            refine lv_goto (tgt := 13) hx hb dX6_putAll_81 (by decide) ?_
            exact ih13 (j + 1) I_57 F_58 ⟨hB59, (((hfJ.tr (hf19.mono (by decide) (by decide))).tr (hf51.mono (by decide) (by decide))).tr (hf59.mono (by decide) (by decide))), hp59, by omega⟩ (by omega) _ _ hP hD hS ls (lv_sub hl [0, 2, 3, 4] rfl)
          · skip
            refine lv_aload_n hx hb dX6_putAll_60 rfl (lv_at hl 3 rfl) ?_
            refine lv_bipush (v := iz 45) hx hb dX6_putAll_61 (by decide) ?_
            have hac_63 : mfr [29, 31, 32, 33, 42, 43] [25, 26, 27, 28, 41] I F I_57 F_58 := (((hfJ.tr (hf19.mono (by decide) (by decide))).tr (hf51.mono (by decide) (by decide))).tr (hf59.mono (by decide) (by decide)))
            refine mk_callv (As := [.int (iz 45)]) (rest := []) ⟨hx, hb, hml, hown, hts⟩ (k_put l dC dI mo ma cs I_57 F_58 45 H.size hB59 hp59.1) (cwV 1 hts (kx_gV kq_09_mput_12 kq_09_mput_13 kq_09_mput_14 kq_04_msmall_6 kq_09_mput_15 rfl) rfl rfl rfl (by decide +kernel) ⟨Nat.le_of_ble_eq_true rfl, Nat.le_of_ble_eq_true rfl⟩) hP hD hK hG hZ hS hA rfl hl.1 rfl (Nat.le_of_ble_eq_true rfl) dX6_putAll_63 ⟨Nat.le_of_ble_eq_true rfl, Nat.le_of_ble_eq_true rfl⟩ (fun I_66 F_67 H locs hq_65 hP hD hS => ?_)
            try dsimp only at hq_65
            obtain ⟨hB68, hf68, hd68⟩ := hq_65
            have hp68 := mPS.put hp59 hf68 hd68
            refine lv_aload_n hx hb dX6_putAll_66 rfl (lv_at hl 3 rfl) ?_
            refine lv_aload_n hx hb dX6_putAll_67 rfl (lv_at hl 3 rfl) ?_
            refine va_get (D := (dC, dI)) (ci := 6) (v := .int (iz (I_66 31))) (C := RX6) (T := TX6) (N := 44) hx hb hts kt_X6 hown hK hP 0 rfl rfl 31 (by decide) (kx_word hG kq_09_mput_0 rfl) (fun _ h9 => h9) rfl dX6_putAll_68 ?_
            have hbd_69 := hB68.1 31
            refine lv_aload_n hx hb dX6_putAll_71 rfl (lv_at hl 3 rfl) ?_
            refine va_get (D := (dC, dI)) (ci := 6) (v := .int (iz (I_66 33))) (C := RX6) (T := TX6) (N := 44) hx hb hts kt_X6 hown hK hP 0 rfl rfl 33 (by decide) (kx_word hG kq_09_mput_2 rfl) (fun _ h9 => h9) rfl dX6_putAll_72 ?_
            have hbd_70 := hB68.1 33
            have hac_71 : mfr [29, 31, 32, 33, 42, 43] [25, 26, 27, 28, 41] I F I_66 F_67 := ((((hfJ.tr (hf19.mono (by decide) (by decide))).tr (hf51.mono (by decide) (by decide))).tr (hf59.mono (by decide) (by decide))).tr (hf68.mono (by decide) (by decide)))
            refine mk_callv (As := [.int (iz (I_66 31)), .int (iz (I_66 33))]) (rest := []) ⟨hx, hb, hml, hown, hts⟩ (k_putOne l dC dI mo ma cs I_66 F_67 (I_66 31) (I_66 33) H.size hB68 hp68.1 (by have h9 := hp68.2.1; unfold mFd at h9; omega) (by omega) (by omega)) (cwV 2 hts (kx_gV kq_10_mprint_8 kq_10_mprint_9 kq_10_mprint_10 kq_04_msmall_6 kq_10_mprint_11 rfl) rfl rfl rfl (by decide +kernel) ⟨Nat.le_of_ble_eq_true rfl, Nat.le_of_ble_eq_true rfl⟩) hP hD hK hG hZ hS hA rfl hl.1 rfl (Nat.le_of_ble_eq_true rfl) dX6_putAll_75 ⟨Nat.le_of_ble_eq_true rfl, Nat.le_of_ble_eq_true rfl⟩ (fun I_74 F_75 H locs hq_73 hP hD hS => ?_)
            try dsimp only at hq_73
            obtain ⟨hB76, hf76, hd76⟩ := hq_73
            have hp76 := mPS.put hp68 hf76 hd76
            refine lv_iinc (v := iz (j + 1)) (lv' := [(3, .int (iz (j + 1))), (4, .int (iz z_15)), (2, .int (iz z_8)), (0, .ref mo), (1, .int (iz p0))]) hx hb dX6_putAll_78 hl (k := 1) rfl (iz_add j 1) (by decide) rfl (fun ls hl => ?_)
            refine lv_goto (tgt := 13) hx hb dX6_putAll_81 (by decide) ?_
            exact ih13 (j + 1) I_74 F_75 ⟨hB76, (((((hfJ.tr (hf19.mono (by decide) (by decide))).tr (hf51.mono (by decide) (by decide))).tr (hf59.mono (by decide) (by decide))).tr (hf68.mono (by decide) (by decide))).tr (hf76.mono (by decide) (by decide))), hp76, by omega⟩ (by omega) _ _ hP hD hS ls (lv_sub hl [0, 2, 3, 4] rfl)
  exact lp13 _ 0 I_10 F_5 ⟨hB12, ((mfr.rf.tr (hf6.mono (by decide) (by decide))).tr (hf12.mono (by decide) (by decide))), hp12, by omega⟩ (Nat.lt_succ_self _) _ _ hP hD hS ls (lv_sub hl [0, 1, 2, 3] rfl)
set_option maxHeartbeats 4000000 in
set_option maxRecDepth 100000 in
theorem k_putShown (l : Launch) (dC : Nat → ClassId) (dI : Nat → Nat → Nat) (mo : Nat) (ma : Nat → Nat) (cs : Nat → ClassId) (I : Nat → Int) (F : Nat → Int → Int) (p0 : Int) (sz : Nat) (hB : mB I F) (hc : 0 ≤ I 1 ∧ I 1 ≤ 64) (hn : ∀ e, 0 ≤ F 5 e ∧ F 5 e ≤ 20) (hmy : ∀ e, 0 ≤ F 13 e ∧ F 13 e ≤ 5) (hsm : mSm (I 1) F) (hse : mSe I F) (hsu : sumI (F 13) (I 1).toNat ≤ 64) (hdr : mDr I) (hp01 : -2147483648 ≤ p0) (hp02 : p0 < 2147483648) : mMv l yX6_putShown (.code yX6_putShown cX6_putShown 3 none) 2 43 dC dI mo ma cs I F [.ref mo, .int (iz p0)] sz (fun (I' : Nat → Int) (F' : Nat → Int → Int) => mB I' F' ∧ mfr [35, 42, 43] [34, 41] I F I' F' ∧ mDr I') := by
  refine Met.ofW (cc := cX6_putShown) (maxL := 3) (ret := none) (by decide) rfl ?_
  intro p e s m args below meth c s₁ B hml hv
  obtain ⟨rfl, hsz, hP, hK, hD0, hG, hZ⟩ := hv
  have hx := B.exec
  have hb := B.bytes
  have hr := B.returns
  have hts := kx_hts (a := ([.ref mo, .int (iz p0)] : List Value).toArray) hG
  have hown : s.vm.findClass RX6 = some m.cls := findClass_of_methodNamed B.named
  have hlocks := B.notSynchronized
  subst hsz
  have hD := hD0.self (sz := s.heap.size)
  generalize hAe : va_A (mW mo ma cs I F) s.heap.size = A at hD hZ ⊢
  have hA : ∀ q : Nat, s.heap.size ≤ q → A q := fun q h => by rw [← hAe]; exact Or.inr h
  have hS : va_S A s.heap s.heap [] := va_S.rf
  have hl := lv_entry ([.ref mo, .int (iz p0)]) (n := 3) (Nat.le_of_ble_eq_true rfl)
  rw [lg_entry_eq]
  generalize (lg_sl ([.ref mo, .int (iz p0)]) ++ List.replicate (3 - (lg_sl ([.ref mo, .int (iz p0)])).length) Slot.unset).toArray = ls at hl ⊢
  have hl : lv_has ls 3 [(0, .ref mo), (1, .int (iz p0))] := hl
  generalize hQe : MQ below (mQv dC dI mo ma cs A (fun (I' : Nat → Int) (F' : Nat → Int → Int) => mB I' F' ∧ mfr [35, 42, 43] [34, 41] I F I' F' ∧ mDr I')) ([.ref mo, .int (iz p0)] : List Value).toArray s 0 0 A = QQ
  refine lv_aload_n hx hb dX6_putShown_0 rfl (lv_at hl 0 rfl) ?_
  refine lv_iload_n hx hb dX6_putShown_1 rfl (lv_at hl 1 rfl) ?_
  have hac_1 : mfr [35, 42, 43] [34, 41] I F I F := mfr.rf
  refine mk_callv (As := [.int (iz p0)]) (rest := []) ⟨hx, hb, hml, hown, hts⟩ (k_gatherShown l dC dI mo ma cs I F p0 s.heap.size hB (by rw [(hac_1.1 1 (by decide))]; exact hc) (fun e => by rw [(hac_1.2 13 (by decide))]; exact hmy e) (by rw [(hac_1.1 1 (by decide))]; exact mSm.fr hsm (hac_1.2 17 (by decide)) (hac_1.2 2 (by decide))) (fun e k x1 x2 x3 x4 => by rw [(hac_1.1 1 (by decide))] at x2 ⊢; rw [(hac_1.2 13 (by decide))] at x4; rw [(hac_1.2 12 (by decide))]; exact hse e k x1 x2 x3 x4) (by rw [(hac_1.1 1 (by decide)), (hac_1.2 13 (by decide))]; exact hsu) (by omega) (by omega)) (cwV 1 hts (kx_gV kq_10_mprint_12 kq_10_mprint_13 kq_10_mprint_14 kq_04_msmall_6 kq_10_mprint_15 rfl) rfl rfl rfl (by decide +kernel) ⟨Nat.le_of_ble_eq_true rfl, Nat.le_of_ble_eq_true rfl⟩) hP hD hK hG hZ hS hA rfl hl.1 rfl (Nat.le_of_ble_eq_true rfl) dX6_putShown_2 ⟨Nat.le_of_ble_eq_true rfl, Nat.le_of_ble_eq_true rfl⟩ (fun I_4 F_5 H locs hq_3 hP hD hS => ?_)
  try dsimp only at hq_3
  obtain ⟨hB6, hf6, hv6, hw6⟩ := hq_3
  have hd6 := hdr.fr (hf6.1 42 (by decide)) (hf6.1 43 (by decide))
  refine lv_iconst (v := iz 0) hx hb dX6_putShown_5 (by decide) ?_
  refine lv_istore_n (lv' := [(2, .int (iz 0)), (0, .ref mo), (1, .int (iz p0))]) hx hb dX6_putShown_6 rfl hl (by decide) rfl (fun ls hl => ?_)
  have lp7 : ∀ (n : Nat) (j : Int) (J : Nat → Int) (G : Nat → Int → Int), ((mB J G) ∧ (mfr [35, 42, 43] [34, 41] I F J G) ∧ (mDr J) ∧ (0 ≤ J 35 ∧ J 35 ≤ 64) ∧ (mSh (I 1) J G) ∧ (0 ≤ j ∧ j ≤ 64)) → (J 35 - j).toNat < n → ∀ (H : Heap) (locs : List Loc), va_P (dC, dI) kxCl (mW mo ma cs J G) H → va_D A (mW mo ma cs J G) → va_S A s.heap H locs → ∀ ls : Array Slot, lv_has ls 3 [(2, .int (iz j)), (0, .ref mo), (1, .int (iz p0))] → W p l e (headSpec [.code yX6_putShown cX6_putShown 3 none] ({ frames := 2, cells := 0, slots := 0, locals := 43 })).room s m ([.ref mo, .int (iz p0)] : List Value).toArray below meth c H locs 0 0 QQ (F0 m 7 ls []) := by
    intro n
    induction n with
    | zero => intro j J G hinv hm; exact absurd hm (Nat.not_lt_zero _)
    | succ n ih7 =>
      intro j J G hinv hm H locs hP hD hS ls hl
      obtain ⟨hBJ, hfJ, hdJ, h35, hsv, hj⟩ := hinv
      refine lv_iload_n hx hb dX6_putShown_7 rfl (lv_at hl 0 rfl) ?_
      refine lv_aload_n hx hb dX6_putShown_8 rfl (lv_at hl 1 rfl) ?_
      refine va_get (D := (dC, dI)) (ci := 6) (v := .int (iz (J 35))) (C := RX6) (T := TX6) (N := 44) hx hb hts kt_X6 hown hK hP 0 rfl rfl 35 (by decide) (kx_word hG kq_09_mput_3 rfl) (fun _ h9 => h9) rfl dX6_putShown_9 ?_
      have hbd_7 := hBJ.1 35
      refine ki_icmp_ge (tgt := 43) hx hb dX6_putShown_12 (by decide) (by omega) (by omega) (by omega) (by omega) (fun c_8 => ?_) (fun c_8 => ?_)
      · skip
        rw [← hQe]
        exact mk_ret hx hb hr hlocks hP hD hK hS dX6_putShown_43 (⟨hBJ, hfJ, hdJ⟩)
      · skip
        refine lv_iload_n hx hb dX6_putShown_15 rfl (lv_at hl 0 rfl) ?_
        refine ki_if_le (tgt := 27) hx hb dX6_putShown_16 (by decide) (by omega) (by omega) (fun c_9 => ?_) (fun c_9 => ?_)
        · skip
          refine lv_aload_n hx hb dX6_putShown_27 rfl (lv_at hl 1 rfl) ?_
          refine lv_aload_n hx hb dX6_putShown_28 rfl (lv_at hl 1 rfl) ?_
          refine va_get (D := (dC, dI)) (ci := 6) (v := .ref (ma 34)) (C := RX6) (T := TX6) (N := 44) hx hb hts kt_X6 hown hK hP 0 rfl rfl 34 (by decide) (kx_word hG kq_09_mput_4 rfl) (fun _ h9 => h9) rfl dX6_putShown_29 ?_
          refine lv_iload_n hx hb dX6_putShown_32 rfl (lv_at hl 0 rfl) ?_
          refine ki_iald (F := G 34) hx hb hK hP 24 23 rfl rfl (by omega) (by omega) (by decide) dX6_putShown_33 ?_
          have hbd_10 := hBJ.2 34 j
          have hac_11 : mfr [35, 42, 43] [34, 41] I F J G := hfJ
          refine mk_callv (As := [.int (iz (G 34 j))]) (rest := []) ⟨hx, hb, hml, hown, hts⟩ (k_putSigns l dC dI mo ma cs J G (G 34 j) H.size hBJ hdJ (fun e => by rw [(hac_11.2 5 (by decide))]; exact hn e) (by have h9 := hsv j (by omega) (by omega); omega)) (cwV 1 hts (kx_gV kq_10_mprint_16 kq_10_mprint_17 kq_10_mprint_18 kq_04_msmall_6 kq_10_mprint_19 rfl) rfl rfl rfl (by decide +kernel) ⟨Nat.le_of_ble_eq_true rfl, Nat.le_of_ble_eq_true rfl⟩) hP hD hK hG hZ hS hA rfl hl.1 rfl (Nat.le_of_ble_eq_true rfl) dX6_putShown_34 ⟨Nat.le_of_ble_eq_true rfl, Nat.le_of_ble_eq_true rfl⟩ (fun I_14 F_15 H locs hq_13 hP hD hS => ?_)
          try dsimp only at hq_13
          obtain ⟨hB16, hf16, hd16⟩ := hq_13
          have hmd_17 := hf16
          have hmd_17e := hmd_17.1 35 (by decide)
          refine lv_iinc (v := iz (j + 1)) (lv' := [(2, .int (iz (j + 1))), (0, .ref mo), (1, .int (iz p0))]) hx hb dX6_putShown_37 hl (k := 0) rfl (iz_add j 1) (by decide) rfl (fun ls hl => ?_)
          refine lv_goto (tgt := 7) hx hb dX6_putShown_40 (by decide) ?_
          exact ih7 (j + 1) I_14 F_15 ⟨hB16, (hfJ.tr (hf16.mono (by decide) (by decide))), hd16, by have h9 := hmd_17.1 35 (by decide); omega, fun i x1 x2 => by rw [hmd_17.1 35 (by decide)] at x2; rw [hmd_17.2 34 (by decide)]; exact hsv i x1 x2, by omega⟩ (by omega) _ _ hP hD hS ls (lv_sub hl [0, 1, 2] rfl)
        · skip
          refine lv_aload_n hx hb dX6_putShown_19 rfl (lv_at hl 1 rfl) ?_
          refine lv_bipush (v := iz 59) hx hb dX6_putShown_20 (by decide) ?_
          refine lv_bipush (v := iz 32) hx hb dX6_putShown_22 (by decide) ?_
          have hac_18 : mfr [35, 42, 43] [34, 41] I F J G := hfJ
          refine mk_callv (As := [.int (iz 59), .int (iz 32)]) (rest := []) ⟨hx, hb, hml, hown, hts⟩ (k_putPair l dC dI mo ma cs J G 59 32 H.size hBJ hdJ) (cwV 2 hts (kx_gV kq_09_mput_16 kq_09_mput_17 kq_09_mput_18 kq_04_msmall_6 kq_09_mput_19 rfl) rfl rfl rfl (by decide +kernel) ⟨Nat.le_of_ble_eq_true rfl, Nat.le_of_ble_eq_true rfl⟩) hP hD hK hG hZ hS hA rfl hl.1 rfl (Nat.le_of_ble_eq_true rfl) dX6_putShown_24 ⟨Nat.le_of_ble_eq_true rfl, Nat.le_of_ble_eq_true rfl⟩ (fun I_21 F_22 H locs hq_20 hP hD hS => ?_)
          try dsimp only at hq_20
          obtain ⟨hB23, hf23, hd23⟩ := hq_20
          have hmd_24 := hf23
          have hmd_24e := hmd_24.1 35 (by decide)
          refine lv_aload_n hx hb dX6_putShown_27 rfl (lv_at hl 1 rfl) ?_
          refine lv_aload_n hx hb dX6_putShown_28 rfl (lv_at hl 1 rfl) ?_
          refine va_get (D := (dC, dI)) (ci := 6) (v := .ref (ma 34)) (C := RX6) (T := TX6) (N := 44) hx hb hts kt_X6 hown hK hP 0 rfl rfl 34 (by decide) (kx_word hG kq_09_mput_4 rfl) (fun _ h9 => h9) rfl dX6_putShown_29 ?_
          refine lv_iload_n hx hb dX6_putShown_32 rfl (lv_at hl 0 rfl) ?_
          refine ki_iald (F := F_22 34) hx hb hK hP 24 23 rfl rfl (by omega) (by omega) (by decide) dX6_putShown_33 ?_
          have hbd_25 := hB23.2 34 j
          have hac_26 : mfr [35, 42, 43] [34, 41] I F I_21 F_22 := (hfJ.tr (hf23.mono (by decide) (by decide)))
          refine mk_callv (As := [.int (iz (F_22 34 j))]) (rest := []) ⟨hx, hb, hml, hown, hts⟩ (k_putSigns l dC dI mo ma cs I_21 F_22 (F_22 34 j) H.size hB23 hd23 (fun e => by rw [(hac_26.2 5 (by decide))]; exact hn e) (by have h9 := hsv j (by omega) (by omega); rw [hmd_24.2 34 (by decide)]; omega)) (cwV 1 hts (kx_gV kq_10_mprint_16 kq_10_mprint_17 kq_10_mprint_18 kq_04_msmall_6 kq_10_mprint_19 rfl) rfl rfl rfl (by decide +kernel) ⟨Nat.le_of_ble_eq_true rfl, Nat.le_of_ble_eq_true rfl⟩) hP hD hK hG hZ hS hA rfl hl.1 rfl (Nat.le_of_ble_eq_true rfl) dX6_putShown_34 ⟨Nat.le_of_ble_eq_true rfl, Nat.le_of_ble_eq_true rfl⟩ (fun I_29 F_30 H locs hq_28 hP hD hS => ?_)
          try dsimp only at hq_28
          obtain ⟨hB31, hf31, hd31⟩ := hq_28
          have hmd_32 := hmd_24.tr hf31
          have hmd_32e := hmd_32.1 35 (by decide)
          refine lv_iinc (v := iz (j + 1)) (lv' := [(2, .int (iz (j + 1))), (0, .ref mo), (1, .int (iz p0))]) hx hb dX6_putShown_37 hl (k := 0) rfl (iz_add j 1) (by decide) rfl (fun ls hl => ?_)
          refine lv_goto (tgt := 7) hx hb dX6_putShown_40 (by decide) ?_
          exact ih7 (j + 1) I_29 F_30 ⟨hB31, ((hfJ.tr (hf23.mono (by decide) (by decide))).tr (hf31.mono (by decide) (by decide))), hd31, by have h9 := hmd_32.1 35 (by decide); omega, fun i x1 x2 => by rw [hmd_32.1 35 (by decide)] at x2; rw [hmd_32.2 34 (by decide)]; exact hsv i x1 x2, by omega⟩ (by omega) _ _ hP hD hS ls (lv_sub hl [0, 1, 2] rfl)
  exact lp7 _ 0 I_4 F_5 ⟨hB6, (mfr.rf.tr (hf6.mono (by decide) (by decide))), hd6, hv6, hw6, by omega⟩ (Nat.lt_succ_self _) _ _ hP hD hS ls (lv_sub hl [0, 1, 2] rfl)
set_option maxHeartbeats 4000000 in
set_option maxRecDepth 100000 in
theorem k_putPart (l : Launch) (dC : Nat → ClassId) (dI : Nat → Nat → Nat) (mo : Nat) (ma : Nat → Nat) (cs : Nat → ClassId) (I : Nat → Int) (F : Nat → Int → Int) (pt : Int) (p1 : Int) (sz : Nat) (hB : mB I F) (hc : 0 ≤ I 1 ∧ I 1 ≤ 64) (hn : ∀ e, 0 ≤ F 5 e ∧ F 5 e ≤ 20) (hln : ∀ e, 0 ≤ F 10 e ∧ 0 ≤ F 11 e ∧ F 11 e ≤ 99999 ∧ F 10 e + (if 0 < F 11 e then 1 else 0) ≤ 20) (hmy : ∀ e, 0 ≤ F 13 e ∧ F 13 e ≤ 5) (hmf : mFt F) (hlv : mLv I F) (hsm : mSm (I 1) F) (hse : mSe I F) (hsu : sumI (F 13) (I 1).toNat ≤ 64) (hst : 0 ≤ I 37 ∧ I 37 ≤ 64) (hbr : mBr 4 I F) (hps : mPS I F) (h0 : 0 ≤ p1 ∧ p1 < I 1) (hpt : 0 ≤ pt ∧ pt ≤ 3) : mMv l yX6_putPart (.code yX6_putPart cX6_putPart 6 none) 5 111 dC dI mo ma cs I F [.ref mo, .int (iz pt), .int (iz p1)] sz (fun (I' : Nat → Int) (F' : Nat → Int → Int) => mB I' F' ∧ mfr [29, 31, 32, 33, 35, 42, 43] [20, 21, 22, 23, 24, 25, 26, 27, 28, 34, 41] I F I' F' ∧ mPS I' F') := by
  refine Met.ofW (cc := cX6_putPart) (maxL := 6) (ret := none) (by decide) rfl ?_
  intro p e s m args below meth c s₁ B hml hv
  obtain ⟨rfl, hsz, hP, hK, hD0, hG, hZ⟩ := hv
  have hx := B.exec
  have hb := B.bytes
  have hr := B.returns
  have hts := kx_hts (a := ([.ref mo, .int (iz pt), .int (iz p1)] : List Value).toArray) hG
  have hown : s.vm.findClass RX6 = some m.cls := findClass_of_methodNamed B.named
  have hlocks := B.notSynchronized
  subst hsz
  have hD := hD0.self (sz := s.heap.size)
  generalize hAe : va_A (mW mo ma cs I F) s.heap.size = A at hD hZ ⊢
  have hA : ∀ q : Nat, s.heap.size ≤ q → A q := fun q h => by rw [← hAe]; exact Or.inr h
  have hS : va_S A s.heap s.heap [] := va_S.rf
  have hl := lv_entry ([.ref mo, .int (iz pt), .int (iz p1)]) (n := 6) (Nat.le_of_ble_eq_true rfl)
  rw [lg_entry_eq]
  generalize (lg_sl ([.ref mo, .int (iz pt), .int (iz p1)]) ++ List.replicate (6 - (lg_sl ([.ref mo, .int (iz pt), .int (iz p1)])).length) Slot.unset).toArray = ls at hl ⊢
  have hl : lv_has ls 6 [(0, .ref mo), (1, .int (iz pt)), (2, .int (iz p1))] := hl
  generalize hQe : MQ below (mQv dC dI mo ma cs A (fun (I' : Nat → Int) (F' : Nat → Int → Int) => mB I' F' ∧ mfr [29, 31, 32, 33, 35, 42, 43] [20, 21, 22, 23, 24, 25, 26, 27, 28, 34, 41] I F I' F' ∧ mPS I' F')) ([.ref mo, .int (iz pt), .int (iz p1)] : List Value).toArray s 0 0 A = QQ
  have hb9 := hbr pt (by omega) (by omega)
  refine lv_iload_n hx hb dX6_putPart_0 rfl (lv_at hl 1 rfl) ?_
  refine ki_if_ne (tgt := 8) hx hb dX6_putPart_1 (by decide) (by omega) (by omega) (fun c_1 => ?_) (fun c_1 => ?_)
  · skip
    refine lv_aload_n hx hb dX6_putPart_8 rfl (lv_at hl 0 rfl) ?_
    refine va_get (D := (dC, dI)) (ci := 6) (v := .ref (ma 38)) (C := RX6) (T := TX6) (N := 44) hx hb hts kt_X6 hown hK hP 0 rfl rfl 38 (by decide) (kx_word hG kq_09_mput_5 rfl) (fun _ h9 => h9) rfl dX6_putPart_9 ?_
    have hb8 := hbr (pt - 1) (by omega) (by omega)
    refine lv_iload_n hx hb dX6_putPart_12 rfl (lv_at hl 1 rfl) ?_
    refine lv_iconst (v := iz 1) hx hb dX6_putPart_13 (by decide) ?_
    refine ki_isub hx hb dX6_putPart_14 ?_
    refine ki_iald (F := F 38) hx hb hK hP 26 25 rfl rfl (by omega) (by omega) (by decide) dX6_putPart_15 ?_
    have hbd_2 := hB.2 38 (pt - 1)
    refine lv_iconst (v := iz 1) hx hb dX6_putPart_16 (by decide) ?_
    refine ki_iadd hx hb dX6_putPart_17 ?_
    refine lv_istore_n (lv' := [(3, .int (iz ((F 38 (pt - 1)) + 1))), (0, .ref mo), (1, .int (iz pt)), (2, .int (iz p1))]) hx hb dX6_putPart_18 rfl hl (by decide) rfl (fun ls hl => ?_)
    have lp19 : ∀ (n : Nat) (k : Int) (J : Nat → Int) (G : Nat → Int → Int), ((mB J G) ∧ (mfr [29, 31, 32, 33, 35, 42, 43] [20, 21, 22, 23, 24, 25, 26, 27, 28, 34, 41] I F J G) ∧ (mPS J G) ∧ (0 ≤ k ∧ k ≤ 66)) → (F 38 pt - k).toNat < n → ∀ (H : Heap) (locs : List Loc), va_P (dC, dI) kxCl (mW mo ma cs J G) H → va_D A (mW mo ma cs J G) → va_S A s.heap H locs → ∀ ls : Array Slot, lv_has ls 6 [(3, .int (iz k)), (0, .ref mo), (1, .int (iz pt)), (2, .int (iz p1))] → W p l e (headSpec [.code yX6_putPart cX6_putPart 6 none] ({ frames := 5, cells := 0, slots := 0, locals := 111 })).room s m ([.ref mo, .int (iz pt), .int (iz p1)] : List Value).toArray below meth c H locs 0 0 QQ (F0 m 19 ls []) := by
      intro n
      induction n with
      | zero => intro k J G hinv hm; exact absurd hm (Nat.not_lt_zero _)
      | succ n ih19 =>
        intro k J G hinv hm H locs hP hD hS ls hl
        obtain ⟨hBJ, hfJ, hpJ, hk⟩ := hinv
        have e38 := congrFun (hfJ.2 38 (by decide)) pt
        refine lv_iload_n hx hb dX6_putPart_19 rfl (lv_at hl 0 rfl) ?_
        refine lv_aload_n hx hb dX6_putPart_20 rfl (lv_at hl 1 rfl) ?_
        refine va_get (D := (dC, dI)) (ci := 6) (v := .ref (ma 38)) (C := RX6) (T := TX6) (N := 44) hx hb hts kt_X6 hown hK hP 0 rfl rfl 38 (by decide) (kx_word hG kq_09_mput_5 rfl) (fun _ h9 => h9) rfl dX6_putPart_21 ?_
        refine lv_iload_n hx hb dX6_putPart_24 rfl (lv_at hl 2 rfl) ?_
        refine ki_iald (F := G 38) hx hb hK hP 26 25 rfl rfl (by omega) (by omega) (by decide) dX6_putPart_25 ?_
        have hbd_3 := hBJ.2 38 pt
        refine ki_icmp_ge (tgt := 206) hx hb dX6_putPart_26 (by decide) (by omega) (by omega) (by omega) (by omega) (fun c_4 => ?_) (fun c_4 => ?_)
        · skip
          rw [← hQe]
          exact mk_ret hx hb hr hlocks hP hD hK hS dX6_putPart_206 (⟨hBJ, hfJ, hpJ⟩)
        · skip
          refine lv_aload_n hx hb dX6_putPart_29 rfl (lv_at hl 1 rfl) ?_
          refine va_get (D := (dC, dI)) (ci := 6) (v := .ref (ma 36)) (C := RX6) (T := TX6) (N := 44) hx hb hts kt_X6 hown hK hP 0 rfl rfl 36 (by decide) (kx_word hG kq_04_msmall_20 rfl) (fun _ h9 => h9) rfl dX6_putPart_30 ?_
          refine lv_iload_n hx hb dX6_putPart_33 rfl (lv_at hl 0 rfl) ?_
          refine ki_iald (F := G 36) hx hb hK hP 25 24 rfl rfl (by omega) (by omega) (by decide) dX6_putPart_34 ?_
          have hbd_5 := hBJ.2 36 k
          refine lv_istore (lv' := [(4, .int (iz (G 36 k))), (3, .int (iz k)), (0, .ref mo), (1, .int (iz pt)), (2, .int (iz p1))]) hx hb dX6_putPart_35 hl (by decide) rfl (fun ls hl => ?_)
          refine lv_iload hx hb dX6_putPart_37 (lv_at hl 0 rfl) ?_
          refine lv_bipush (v := iz 37) hx hb dX6_putPart_39 (by decide) ?_
          refine ki_icmp_eq (tgt := 56) hx hb dX6_putPart_41 (by decide) (by omega) (by omega) (by omega) (by omega) (fun c_6 => ?_) (fun c_6 => ?_)
          · skip
            refine lv_aload_n hx hb dX6_putPart_56 rfl (lv_at hl 2 rfl) ?_
            refine va_get (D := (dC, dI)) (ci := 6) (v := .ref (ma 36)) (C := RX6) (T := TX6) (N := 44) hx hb hts kt_X6 hown hK hP 0 rfl rfl 36 (by decide) (kx_word hG kq_04_msmall_20 rfl) (fun _ h9 => h9) rfl dX6_putPart_57 ?_
            refine lv_iload_n hx hb dX6_putPart_60 rfl (lv_at hl 1 rfl) ?_
            refine lv_iconst (v := iz 1) hx hb dX6_putPart_61 (by decide) ?_
            refine ki_iadd hx hb dX6_putPart_62 ?_
            refine ki_iald (F := G 36) hx hb hK hP 25 24 rfl rfl (by omega) (by omega) (by decide) dX6_putPart_63 ?_
            have hbd_7 := hBJ.2 36 (k + 1)
            refine lv_istore (lv' := [(4, .int (iz (G 36 (k + 1)))), (3, .int (iz k)), (0, .ref mo), (1, .int (iz pt)), (2, .int (iz p1))]) hx hb dX6_putPart_64 hl (by decide) rfl (fun ls hl => ?_)
            refine lv_iload_n hx hb dX6_putPart_66 rfl (lv_at hl 1 rfl) ?_
            refine lv_iconst (v := iz 2) hx hb dX6_putPart_67 (by decide) ?_
            refine ki_iadd hx hb dX6_putPart_68 ?_
            refine lv_istore_n (lv' := [(3, .int (iz (k + 2))), (4, .int (iz (G 36 (k + 1)))), (0, .ref mo), (1, .int (iz pt)), (2, .int (iz p1))]) hx hb dX6_putPart_69 rfl hl (by decide) rfl (fun ls hl => ?_)
            refine lv_iload hx hb dX6_putPart_70 (lv_at hl 1 rfl) ?_
            refine lv_bipush (v := iz 103) hx hb dX6_putPart_72 (by decide) ?_
            refine ki_icmp_ne (tgt := 85) hx hb dX6_putPart_74 (by decide) (by omega) (by omega) (by omega) (by omega) (fun c_8 => ?_) (fun c_8 => ?_)
            · skip
              refine lv_iconst (v := iz 0) hx hb dX6_putPart_85 (by decide) ?_
              refine lv_istore (lv' := [(5, .int (iz 0)), (3, .int (iz (k + 2))), (4, .int (iz (G 36 (k + 1)))), (0, .ref mo), (1, .int (iz pt)), (2, .int (iz p1))]) hx hb dX6_putPart_86 hl (by decide) rfl (fun ls hl => ?_)
              refine lv_iload hx hb dX6_putPart_88 (lv_at hl 2 rfl) ?_
              refine lv_bipush (v := iz 110) hx hb dX6_putPart_90 (by decide) ?_
              refine ki_icmp_eq (tgt := 109) hx hb dX6_putPart_92 (by decide) (by omega) (by omega) (by omega) (by omega) (fun c_9 => ?_) (fun c_9 => ?_)
              · skip
                refine lv_aload_n hx hb dX6_putPart_109 rfl (lv_at hl 3 rfl) ?_
                refine lv_iload hx hb dX6_putPart_110 (lv_at hl 2 rfl) ?_
                refine lv_bipush (v := iz 110) hx hb dX6_putPart_112 (by decide) ?_
                refine ki_icmp_ne (tgt := 122) hx hb dX6_putPart_114 (by decide) (by omega) (by omega) (by omega) (by omega) (fun c_10 => ?_) (fun c_10 => ?_)
                · omega
                · skip
                  refine lv_bipush (v := iz 10) hx hb dX6_putPart_117 (by decide) ?_
                  refine lv_goto (tgt := 150) hx hb dX6_putPart_119 (by decide) ?_
                  have hac_11 : mfr [29, 31, 32, 33, 35, 42, 43] [20, 21, 22, 23, 24, 25, 26, 27, 28, 34, 41] I F J G := hfJ
                  refine mk_callv (As := [.int (iz 10)]) (rest := []) ⟨hx, hb, hml, hown, hts⟩ (k_put l dC dI mo ma cs J G 10 H.size hBJ hpJ.1) (cwV 1 hts (kx_gV kq_09_mput_12 kq_09_mput_13 kq_09_mput_14 kq_04_msmall_6 kq_09_mput_15 rfl) rfl rfl rfl (by decide +kernel) ⟨Nat.le_of_ble_eq_true rfl, Nat.le_of_ble_eq_true rfl⟩) hP hD hK hG hZ hS hA rfl hl.1 rfl (Nat.le_of_ble_eq_true rfl) dX6_putPart_150 ⟨Nat.le_of_ble_eq_true rfl, Nat.le_of_ble_eq_true rfl⟩ (fun I_14 F_15 H locs hq_13 hP hD hS => ?_)
                  try dsimp only at hq_13
                  obtain ⟨hB16, hf16, hd16⟩ := hq_13
                  have hp16 := mPS.put hpJ hf16 hd16
                  refine lv_goto (tgt := 203) hx hb dX6_putPart_153 (by decide) ?_
                  refine lv_goto (tgt := 19) hx hb dX6_putPart_203 (by decide) ?_
                  exact ih19 (k + 2) I_14 F_15 ⟨hB16, (hfJ.tr (hf16.mono (by decide) (by decide))), hp16, by omega⟩ (by omega) _ _ hP hD hS ls (lv_sub hl [1, 3, 4, 5] rfl)
              · skip
                refine lv_iload hx hb dX6_putPart_95 (lv_at hl 2 rfl) ?_
                refine lv_bipush (v := iz 37) hx hb dX6_putPart_97 (by decide) ?_
                refine ki_icmp_eq (tgt := 109) hx hb dX6_putPart_99 (by decide) (by omega) (by omega) (by omega) (by omega) (fun c_17 => ?_) (fun c_17 => ?_)
                · skip
                  refine lv_aload_n hx hb dX6_putPart_109 rfl (lv_at hl 3 rfl) ?_
                  refine lv_iload hx hb dX6_putPart_110 (lv_at hl 2 rfl) ?_
                  refine lv_bipush (v := iz 110) hx hb dX6_putPart_112 (by decide) ?_
                  refine ki_icmp_ne (tgt := 122) hx hb dX6_putPart_114 (by decide) (by omega) (by omega) (by omega) (by omega) (fun c_18 => ?_) (fun c_18 => ?_)
                  · skip
                    refine lv_iload hx hb dX6_putPart_122 (lv_at hl 2 rfl) ?_
                    refine lv_bipush (v := iz 37) hx hb dX6_putPart_124 (by decide) ?_
                    refine ki_icmp_ne (tgt := 134) hx hb dX6_putPart_126 (by decide) (by omega) (by omega) (by omega) (by omega) (fun c_19 => ?_) (fun c_19 => ?_)
                    · omega
                    · skip
                      refine lv_bipush (v := iz 37) hx hb dX6_putPart_129 (by decide) ?_
                      refine lv_goto (tgt := 150) hx hb dX6_putPart_131 (by decide) ?_
                      have hac_20 : mfr [29, 31, 32, 33, 35, 42, 43] [20, 21, 22, 23, 24, 25, 26, 27, 28, 34, 41] I F J G := hfJ
                      refine mk_callv (As := [.int (iz 37)]) (rest := []) ⟨hx, hb, hml, hown, hts⟩ (k_put l dC dI mo ma cs J G 37 H.size hBJ hpJ.1) (cwV 1 hts (kx_gV kq_09_mput_12 kq_09_mput_13 kq_09_mput_14 kq_04_msmall_6 kq_09_mput_15 rfl) rfl rfl rfl (by decide +kernel) ⟨Nat.le_of_ble_eq_true rfl, Nat.le_of_ble_eq_true rfl⟩) hP hD hK hG hZ hS hA rfl hl.1 rfl (Nat.le_of_ble_eq_true rfl) dX6_putPart_150 ⟨Nat.le_of_ble_eq_true rfl, Nat.le_of_ble_eq_true rfl⟩ (fun I_23 F_24 H locs hq_22 hP hD hS => ?_)
                      try dsimp only at hq_22
                      obtain ⟨hB25, hf25, hd25⟩ := hq_22
                      have hp25 := mPS.put hpJ hf25 hd25
                      refine lv_goto (tgt := 203) hx hb dX6_putPart_153 (by decide) ?_
                      refine lv_goto (tgt := 19) hx hb dX6_putPart_203 (by decide) ?_
                      exact ih19 (k + 2) I_23 F_24 ⟨hB25, (hfJ.tr (hf25.mono (by decide) (by decide))), hp25, by omega⟩ (by omega) _ _ hP hD hS ls (lv_sub hl [1, 3, 4, 5] rfl)
                  · omega
                · skip
                  refine lv_iload hx hb dX6_putPart_102 (lv_at hl 2 rfl) ?_
                  refine lv_bipush (v := iz 103) hx hb dX6_putPart_104 (by decide) ?_
                  refine ki_icmp_ne (tgt := 156) hx hb dX6_putPart_106 (by decide) (by omega) (by omega) (by omega) (by omega) (fun c_26 => ?_) (fun c_26 => ?_)
                  · skip
                    refine lv_iload_n hx hb dX6_putPart_156 rfl (lv_at hl 4 rfl) ?_
                    refine ki_if_le (tgt := 175) hx hb dX6_putPart_157 (by decide) (by omega) (by omega) (fun c_27 => ?_) (fun c_27 => ?_)
                    · skip
                      refine lv_iload_n hx hb dX6_putPart_175 rfl (lv_at hl 4 rfl) ?_
                      refine ki_if_le (tgt := 194) hx hb dX6_putPart_176 (by decide) (by omega) (by omega) (fun c_28 => ?_) (fun c_28 => ?_)
                      · skip
                        refine lv_iload_n hx hb dX6_putPart_194 rfl (lv_at hl 4 rfl) ?_
                        refine ki_if_le (tgt := 203) hx hb dX6_putPart_195 (by decide) (by omega) (by omega) (fun c_29 => ?_) (fun c_29 => ?_)
                        · skip
                          refine lv_goto (tgt := 19) hx hb dX6_putPart_203 (by decide) ?_
                          exact ih19 (k + 2) J G ⟨hBJ, hfJ, hpJ, by omega⟩ (by omega) _ _ hP hD hS ls (lv_sub hl [1, 3, 4, 5] rfl)
                        · omega
                      · omega
                    · skip
                      refine lv_iload hx hb dX6_putPart_160 (lv_at hl 2 rfl) ?_
                      refine lv_bipush (v := iz 119) hx hb dX6_putPart_162 (by decide) ?_
                      refine ki_icmp_ne (tgt := 175) hx hb dX6_putPart_164 (by decide) (by omega) (by omega) (by omega) (by omega) (fun c_30 => ?_) (fun c_30 => ?_)
                      · skip
                        refine lv_iload_n hx hb dX6_putPart_175 rfl (lv_at hl 4 rfl) ?_
                        refine ki_if_le (tgt := 194) hx hb dX6_putPart_176 (by decide) (by omega) (by omega) (fun c_31 => ?_) (fun c_31 => ?_)
                        · omega
                        · skip
                          refine lv_iload hx hb dX6_putPart_179 (lv_at hl 2 rfl) ?_
                          refine lv_bipush (v := iz 112) hx hb dX6_putPart_181 (by decide) ?_
                          refine ki_icmp_ne (tgt := 194) hx hb dX6_putPart_183 (by decide) (by omega) (by omega) (by omega) (by omega) (fun c_32 => ?_) (fun c_32 => ?_)
                          · skip
                            refine lv_iload_n hx hb dX6_putPart_194 rfl (lv_at hl 4 rfl) ?_
                            refine ki_if_le (tgt := 203) hx hb dX6_putPart_195 (by decide) (by omega) (by omega) (fun c_33 => ?_) (fun c_33 => ?_)
                            · omega
                            · skip
                              refine lv_aload_n hx hb dX6_putPart_198 rfl (lv_at hl 3 rfl) ?_
                              refine lv_iload_n hx hb dX6_putPart_199 rfl (lv_at hl 5 rfl) ?_
                              have hac_34 : mfr [29, 31, 32, 33, 35, 42, 43] [20, 21, 22, 23, 24, 25, 26, 27, 28, 34, 41] I F J G := hfJ
                              refine mk_callv (As := [.int (iz p1)]) (rest := []) ⟨hx, hb, hml, hown, hts⟩ (k_putShown l dC dI mo ma cs J G p1 H.size hBJ (by rw [(hac_34.1 1 (by decide))]; exact hc) (fun e => by rw [(hac_34.2 5 (by decide))]; exact hn e) (fun e => by rw [(hac_34.2 13 (by decide))]; exact hmy e) (by rw [(hac_34.1 1 (by decide))]; exact mSm.fr hsm (hac_34.2 17 (by decide)) (hac_34.2 2 (by decide))) (fun e k x1 x2 x3 x4 => by rw [(hac_34.1 1 (by decide))] at x2 ⊢; rw [(hac_34.2 13 (by decide))] at x4; rw [(hac_34.2 12 (by decide))]; exact hse e k x1 x2 x3 x4) (by rw [(hac_34.1 1 (by decide)), (hac_34.2 13 (by decide))]; exact hsu) hpJ.1 (by omega) (by omega)) (cwV 1 hts (kx_gV kq_10_mprint_20 kq_10_mprint_21 kq_10_mprint_22 kq_04_msmall_6 kq_10_mprint_23 rfl) rfl rfl rfl (by decide +kernel) ⟨Nat.le_of_ble_eq_true rfl, Nat.le_of_ble_eq_true rfl⟩) hP hD hK hG hZ hS hA rfl hl.1 rfl (Nat.le_of_ble_eq_true rfl) dX6_putPart_200 ⟨Nat.le_of_ble_eq_true rfl, Nat.le_of_ble_eq_true rfl⟩ (fun I_37 F_38 H locs hq_36 hP hD hS => ?_)
                              try dsimp only at hq_36
                              obtain ⟨hB39, hf39, hd39⟩ := hq_36
                              have hp39 := mPS.shw hpJ hf39 hd39
                              refine lv_goto (tgt := 19) hx hb dX6_putPart_203 (by decide) ?_
                              exact ih19 (k + 2) I_37 F_38 ⟨hB39, (hfJ.tr (hf39.mono (by decide) (by decide))), hp39, by omega⟩ (by omega) _ _ hP hD hS ls (lv_sub hl [1, 3, 4, 5] rfl)
                          · skip
                            refine lv_aload_n hx hb dX6_putPart_186 rfl (lv_at hl 3 rfl) ?_
                            refine lv_iload_n hx hb dX6_putPart_187 rfl (lv_at hl 5 rfl) ?_
                            have hac_40 : mfr [29, 31, 32, 33, 35, 42, 43] [20, 21, 22, 23, 24, 25, 26, 27, 28, 34, 41] I F J G := hfJ
                            refine mk_callv (As := [.int (iz p1)]) (rest := []) ⟨hx, hb, hml, hown, hts⟩ (k_putAll l dC dI mo ma cs J G p1 H.size hBJ (by rw [(hac_40.1 1 (by decide))]; exact hc) (fun e => by rw [(hac_40.2 10 (by decide)), (hac_40.2 11 (by decide))]; exact hln e) (fun j => by rw [(hac_40.2 7 (by decide)), (hac_40.2 8 (by decide))]; exact hmf j) hpJ (by omega) (by omega)) (cwV 1 hts (kx_gV kq_10_mprint_24 kq_10_mprint_25 kq_10_mprint_26 kq_04_msmall_6 kq_10_mprint_27 rfl) rfl rfl rfl (by decide +kernel) ⟨Nat.le_of_ble_eq_true rfl, Nat.le_of_ble_eq_true rfl⟩) hP hD hK hG hZ hS hA rfl hl.1 rfl (Nat.le_of_ble_eq_true rfl) dX6_putPart_188 ⟨Nat.le_of_ble_eq_true rfl, Nat.le_of_ble_eq_true rfl⟩ (fun I_43 F_44 H locs hq_42 hP hD hS => ?_)
                            try dsimp only at hq_42
                            obtain ⟨hB45, hf45, hp45⟩ := hq_42
                            refine lv_goto (tgt := 203) hx hb dX6_putPart_191 (by decide) ?_
                            refine lv_goto (tgt := 19) hx hb dX6_putPart_203 (by decide) ?_
                            exact ih19 (k + 2) I_43 F_44 ⟨hB45, (hfJ.tr (hf45.mono (by decide) (by decide))), hp45, by omega⟩ (by omega) _ _ hP hD hS ls (lv_sub hl [1, 3, 4, 5] rfl)
                      · skip
                        refine lv_aload_n hx hb dX6_putPart_167 rfl (lv_at hl 3 rfl) ?_
                        refine lv_iload_n hx hb dX6_putPart_168 rfl (lv_at hl 5 rfl) ?_
                        have hac_46 : mfr [29, 31, 32, 33, 35, 42, 43] [20, 21, 22, 23, 24, 25, 26, 27, 28, 34, 41] I F J G := hfJ
                        refine mk_callv (As := [.int (iz p1)]) (rest := []) ⟨hx, hb, hml, hown, hts⟩ (k_putSigns l dC dI mo ma cs J G p1 H.size hBJ hpJ.1 (fun e => by rw [(hac_46.2 5 (by decide))]; exact hn e) (by omega)) (cwV 1 hts (kx_gV kq_10_mprint_16 kq_10_mprint_17 kq_10_mprint_18 kq_04_msmall_6 kq_10_mprint_19 rfl) rfl rfl rfl (by decide +kernel) ⟨Nat.le_of_ble_eq_true rfl, Nat.le_of_ble_eq_true rfl⟩) hP hD hK hG hZ hS hA rfl hl.1 rfl (Nat.le_of_ble_eq_true rfl) dX6_putPart_169 ⟨Nat.le_of_ble_eq_true rfl, Nat.le_of_ble_eq_true rfl⟩ (fun I_49 F_50 H locs hq_48 hP hD hS => ?_)
                        try dsimp only at hq_48
                        obtain ⟨hB51, hf51, hd51⟩ := hq_48
                        have hp51 := mPS.put hpJ hf51 hd51
                        refine lv_goto (tgt := 203) hx hb dX6_putPart_172 (by decide) ?_
                        refine lv_goto (tgt := 19) hx hb dX6_putPart_203 (by decide) ?_
                        exact ih19 (k + 2) I_49 F_50 ⟨hB51, (hfJ.tr (hf51.mono (by decide) (by decide))), hp51, by omega⟩ (by omega) _ _ hP hD hS ls (lv_sub hl [1, 3, 4, 5] rfl)
                  · omega
            · skip
              refine lv_aload_n hx hb dX6_putPart_77 rfl (lv_at hl 2 rfl) ?_
              refine lv_iload_n hx hb dX6_putPart_78 rfl (lv_at hl 4 rfl) ?_
              have hac_52 : mfr [29, 31, 32, 33, 35, 42, 43] [20, 21, 22, 23, 24, 25, 26, 27, 28, 34, 41] I F J G := hfJ
              refine mk_calli (As := [.int (iz p1)]) (rest := []) ⟨hx, hb, hml, hown, hts⟩ (k_groupOf l dC dI mo ma cs J G p1 H.size hBJ (by rw [(hac_52.1 1 (by decide))]; exact hc) (fun e => by rw [(hac_52.2 5 (by decide))]; exact hn e) (hlv.fr (hac_52.1 1 (by decide)) (hac_52.2 2 (by decide)) (hac_52.2 3 (by decide))) (by rw [(hac_52.1 1 (by decide))]; exact mSm.fr hsm (hac_52.2 17 (by decide)) (hac_52.2 2 (by decide))) (by rw [hac_52.1 1 (by decide)]; exact h0)) (cwV 1 hts (kx_gV kq_10_mprint_28 kq_10_mprint_29 kq_10_mprint_30 kq_04_msmall_6 kq_10_mprint_31 rfl) rfl rfl rfl (by decide +kernel) ⟨Nat.le_of_ble_eq_true rfl, Nat.le_of_ble_eq_true rfl⟩) hP hD hK hG hZ hS hA rfl hl.1 rfl (Nat.le_of_ble_eq_true rfl) dX6_putPart_79 ⟨Nat.le_of_ble_eq_true rfl, Nat.le_of_ble_eq_true rfl⟩ (fun z_53 I_55 F_56 H locs hq_54 hP hD hS => ?_)
              try dsimp only at hq_54
              obtain ⟨rfl, hB57, hf57, hr57⟩ := hq_54
              have hp57 := mPS.scr hpJ hf57
              refine lv_goto (tgt := 86) hx hb dX6_putPart_82 (by decide) ?_
              refine lv_istore (lv' := [(5, .int (iz z_53)), (3, .int (iz (k + 2))), (4, .int (iz (G 36 (k + 1)))), (0, .ref mo), (1, .int (iz pt)), (2, .int (iz p1))]) hx hb dX6_putPart_86 hl (by decide) rfl (fun ls hl => ?_)
              refine lv_iload hx hb dX6_putPart_88 (lv_at hl 2 rfl) ?_
              refine lv_bipush (v := iz 110) hx hb dX6_putPart_90 (by decide) ?_
              refine ki_icmp_eq (tgt := 109) hx hb dX6_putPart_92 (by decide) (by omega) (by omega) (by omega) (by omega) (fun c_58 => ?_) (fun c_58 => ?_)
              · skip
                refine lv_aload_n hx hb dX6_putPart_109 rfl (lv_at hl 3 rfl) ?_
                refine lv_iload hx hb dX6_putPart_110 (lv_at hl 2 rfl) ?_
                refine lv_bipush (v := iz 110) hx hb dX6_putPart_112 (by decide) ?_
                refine ki_icmp_ne (tgt := 122) hx hb dX6_putPart_114 (by decide) (by omega) (by omega) (by omega) (by omega) (fun c_59 => ?_) (fun c_59 => ?_)
                · omega
                · skip
                  refine lv_bipush (v := iz 10) hx hb dX6_putPart_117 (by decide) ?_
                  refine lv_goto (tgt := 150) hx hb dX6_putPart_119 (by decide) ?_
                  have hac_60 : mfr [29, 31, 32, 33, 35, 42, 43] [20, 21, 22, 23, 24, 25, 26, 27, 28, 34, 41] I F J F_56 := (hfJ.tr (hf57.mono (by decide) (by decide)))
                  refine mk_callv (As := [.int (iz 10)]) (rest := []) ⟨hx, hb, hml, hown, hts⟩ (k_put l dC dI mo ma cs J F_56 10 H.size hB57 hp57.1) (cwV 1 hts (kx_gV kq_09_mput_12 kq_09_mput_13 kq_09_mput_14 kq_04_msmall_6 kq_09_mput_15 rfl) rfl rfl rfl (by decide +kernel) ⟨Nat.le_of_ble_eq_true rfl, Nat.le_of_ble_eq_true rfl⟩) hP hD hK hG hZ hS hA rfl hl.1 rfl (Nat.le_of_ble_eq_true rfl) dX6_putPart_150 ⟨Nat.le_of_ble_eq_true rfl, Nat.le_of_ble_eq_true rfl⟩ (fun I_63 F_64 H locs hq_62 hP hD hS => ?_)
                  try dsimp only at hq_62
                  obtain ⟨hB65, hf65, hd65⟩ := hq_62
                  have hp65 := mPS.put hp57 hf65 hd65
                  refine lv_goto (tgt := 203) hx hb dX6_putPart_153 (by decide) ?_
                  refine lv_goto (tgt := 19) hx hb dX6_putPart_203 (by decide) ?_
                  exact ih19 (k + 2) I_63 F_64 ⟨hB65, ((hfJ.tr (hf57.mono (by decide) (by decide))).tr (hf65.mono (by decide) (by decide))), hp65, by omega⟩ (by omega) _ _ hP hD hS ls (lv_sub hl [1, 3, 4, 5] rfl)
              · skip
                refine lv_iload hx hb dX6_putPart_95 (lv_at hl 2 rfl) ?_
                refine lv_bipush (v := iz 37) hx hb dX6_putPart_97 (by decide) ?_
                refine ki_icmp_eq (tgt := 109) hx hb dX6_putPart_99 (by decide) (by omega) (by omega) (by omega) (by omega) (fun c_66 => ?_) (fun c_66 => ?_)
                · skip
                  refine lv_aload_n hx hb dX6_putPart_109 rfl (lv_at hl 3 rfl) ?_
                  refine lv_iload hx hb dX6_putPart_110 (lv_at hl 2 rfl) ?_
                  refine lv_bipush (v := iz 110) hx hb dX6_putPart_112 (by decide) ?_
                  refine ki_icmp_ne (tgt := 122) hx hb dX6_putPart_114 (by decide) (by omega) (by omega) (by omega) (by omega) (fun c_67 => ?_) (fun c_67 => ?_)
                  · skip
                    refine lv_iload hx hb dX6_putPart_122 (lv_at hl 2 rfl) ?_
                    refine lv_bipush (v := iz 37) hx hb dX6_putPart_124 (by decide) ?_
                    refine ki_icmp_ne (tgt := 134) hx hb dX6_putPart_126 (by decide) (by omega) (by omega) (by omega) (by omega) (fun c_68 => ?_) (fun c_68 => ?_)
                    · omega
                    · skip
                      refine lv_bipush (v := iz 37) hx hb dX6_putPart_129 (by decide) ?_
                      refine lv_goto (tgt := 150) hx hb dX6_putPart_131 (by decide) ?_
                      have hac_69 : mfr [29, 31, 32, 33, 35, 42, 43] [20, 21, 22, 23, 24, 25, 26, 27, 28, 34, 41] I F J F_56 := (hfJ.tr (hf57.mono (by decide) (by decide)))
                      refine mk_callv (As := [.int (iz 37)]) (rest := []) ⟨hx, hb, hml, hown, hts⟩ (k_put l dC dI mo ma cs J F_56 37 H.size hB57 hp57.1) (cwV 1 hts (kx_gV kq_09_mput_12 kq_09_mput_13 kq_09_mput_14 kq_04_msmall_6 kq_09_mput_15 rfl) rfl rfl rfl (by decide +kernel) ⟨Nat.le_of_ble_eq_true rfl, Nat.le_of_ble_eq_true rfl⟩) hP hD hK hG hZ hS hA rfl hl.1 rfl (Nat.le_of_ble_eq_true rfl) dX6_putPart_150 ⟨Nat.le_of_ble_eq_true rfl, Nat.le_of_ble_eq_true rfl⟩ (fun I_72 F_73 H locs hq_71 hP hD hS => ?_)
                      try dsimp only at hq_71
                      obtain ⟨hB74, hf74, hd74⟩ := hq_71
                      have hp74 := mPS.put hp57 hf74 hd74
                      refine lv_goto (tgt := 203) hx hb dX6_putPart_153 (by decide) ?_
                      refine lv_goto (tgt := 19) hx hb dX6_putPart_203 (by decide) ?_
                      exact ih19 (k + 2) I_72 F_73 ⟨hB74, ((hfJ.tr (hf57.mono (by decide) (by decide))).tr (hf74.mono (by decide) (by decide))), hp74, by omega⟩ (by omega) _ _ hP hD hS ls (lv_sub hl [1, 3, 4, 5] rfl)
                  · omega
                · skip
                  refine lv_iload hx hb dX6_putPart_102 (lv_at hl 2 rfl) ?_
                  refine lv_bipush (v := iz 103) hx hb dX6_putPart_104 (by decide) ?_
                  refine ki_icmp_ne (tgt := 156) hx hb dX6_putPart_106 (by decide) (by omega) (by omega) (by omega) (by omega) (fun c_75 => ?_) (fun c_75 => ?_)
                  · skip
                    refine lv_iload_n hx hb dX6_putPart_156 rfl (lv_at hl 4 rfl) ?_
                    refine ki_if_le (tgt := 175) hx hb dX6_putPart_157 (by decide) (by omega) (by omega) (fun c_76 => ?_) (fun c_76 => ?_)
                    · skip
                      refine lv_iload_n hx hb dX6_putPart_175 rfl (lv_at hl 4 rfl) ?_
                      refine ki_if_le (tgt := 194) hx hb dX6_putPart_176 (by decide) (by omega) (by omega) (fun c_77 => ?_) (fun c_77 => ?_)
                      · skip
                        refine lv_iload_n hx hb dX6_putPart_194 rfl (lv_at hl 4 rfl) ?_
                        refine ki_if_le (tgt := 203) hx hb dX6_putPart_195 (by decide) (by omega) (by omega) (fun c_78 => ?_) (fun c_78 => ?_)
                        · skip
                          refine lv_goto (tgt := 19) hx hb dX6_putPart_203 (by decide) ?_
                          exact ih19 (k + 2) J F_56 ⟨hB57, (hfJ.tr (hf57.mono (by decide) (by decide))), hp57, by omega⟩ (by omega) _ _ hP hD hS ls (lv_sub hl [1, 3, 4, 5] rfl)
                        · omega
                      · omega
                    · skip
                      refine lv_iload hx hb dX6_putPart_160 (lv_at hl 2 rfl) ?_
                      refine lv_bipush (v := iz 119) hx hb dX6_putPart_162 (by decide) ?_
                      refine ki_icmp_ne (tgt := 175) hx hb dX6_putPart_164 (by decide) (by omega) (by omega) (by omega) (by omega) (fun c_79 => ?_) (fun c_79 => ?_)
                      · skip
                        refine lv_iload_n hx hb dX6_putPart_175 rfl (lv_at hl 4 rfl) ?_
                        refine ki_if_le (tgt := 194) hx hb dX6_putPart_176 (by decide) (by omega) (by omega) (fun c_80 => ?_) (fun c_80 => ?_)
                        · omega
                        · skip
                          refine lv_iload hx hb dX6_putPart_179 (lv_at hl 2 rfl) ?_
                          refine lv_bipush (v := iz 112) hx hb dX6_putPart_181 (by decide) ?_
                          refine ki_icmp_ne (tgt := 194) hx hb dX6_putPart_183 (by decide) (by omega) (by omega) (by omega) (by omega) (fun c_81 => ?_) (fun c_81 => ?_)
                          · skip
                            refine lv_iload_n hx hb dX6_putPart_194 rfl (lv_at hl 4 rfl) ?_
                            refine ki_if_le (tgt := 203) hx hb dX6_putPart_195 (by decide) (by omega) (by omega) (fun c_82 => ?_) (fun c_82 => ?_)
                            · omega
                            · skip
                              refine lv_aload_n hx hb dX6_putPart_198 rfl (lv_at hl 3 rfl) ?_
                              refine lv_iload_n hx hb dX6_putPart_199 rfl (lv_at hl 5 rfl) ?_
                              have hac_83 : mfr [29, 31, 32, 33, 35, 42, 43] [20, 21, 22, 23, 24, 25, 26, 27, 28, 34, 41] I F J F_56 := (hfJ.tr (hf57.mono (by decide) (by decide)))
                              refine mk_callv (As := [.int (iz p1)]) (rest := []) ⟨hx, hb, hml, hown, hts⟩ (k_putShown l dC dI mo ma cs J F_56 p1 H.size hB57 (by rw [(hac_83.1 1 (by decide))]; exact hc) (fun e => by rw [(hac_83.2 5 (by decide))]; exact hn e) (fun e => by rw [(hac_83.2 13 (by decide))]; exact hmy e) (by rw [(hac_83.1 1 (by decide))]; exact mSm.fr hsm (hac_83.2 17 (by decide)) (hac_83.2 2 (by decide))) (fun e k x1 x2 x3 x4 => by rw [(hac_83.1 1 (by decide))] at x2 ⊢; rw [(hac_83.2 13 (by decide))] at x4; rw [(hac_83.2 12 (by decide))]; exact hse e k x1 x2 x3 x4) (by rw [(hac_83.1 1 (by decide)), (hac_83.2 13 (by decide))]; exact hsu) hp57.1 (by omega) (by omega)) (cwV 1 hts (kx_gV kq_10_mprint_20 kq_10_mprint_21 kq_10_mprint_22 kq_04_msmall_6 kq_10_mprint_23 rfl) rfl rfl rfl (by decide +kernel) ⟨Nat.le_of_ble_eq_true rfl, Nat.le_of_ble_eq_true rfl⟩) hP hD hK hG hZ hS hA rfl hl.1 rfl (Nat.le_of_ble_eq_true rfl) dX6_putPart_200 ⟨Nat.le_of_ble_eq_true rfl, Nat.le_of_ble_eq_true rfl⟩ (fun I_86 F_87 H locs hq_85 hP hD hS => ?_)
                              try dsimp only at hq_85
                              obtain ⟨hB88, hf88, hd88⟩ := hq_85
                              have hp88 := mPS.shw hp57 hf88 hd88
                              refine lv_goto (tgt := 19) hx hb dX6_putPart_203 (by decide) ?_
                              exact ih19 (k + 2) I_86 F_87 ⟨hB88, ((hfJ.tr (hf57.mono (by decide) (by decide))).tr (hf88.mono (by decide) (by decide))), hp88, by omega⟩ (by omega) _ _ hP hD hS ls (lv_sub hl [1, 3, 4, 5] rfl)
                          · skip
                            refine lv_aload_n hx hb dX6_putPart_186 rfl (lv_at hl 3 rfl) ?_
                            refine lv_iload_n hx hb dX6_putPart_187 rfl (lv_at hl 5 rfl) ?_
                            have hac_89 : mfr [29, 31, 32, 33, 35, 42, 43] [20, 21, 22, 23, 24, 25, 26, 27, 28, 34, 41] I F J F_56 := (hfJ.tr (hf57.mono (by decide) (by decide)))
                            refine mk_callv (As := [.int (iz p1)]) (rest := []) ⟨hx, hb, hml, hown, hts⟩ (k_putAll l dC dI mo ma cs J F_56 p1 H.size hB57 (by rw [(hac_89.1 1 (by decide))]; exact hc) (fun e => by rw [(hac_89.2 10 (by decide)), (hac_89.2 11 (by decide))]; exact hln e) (fun j => by rw [(hac_89.2 7 (by decide)), (hac_89.2 8 (by decide))]; exact hmf j) hp57 (by omega) (by omega)) (cwV 1 hts (kx_gV kq_10_mprint_24 kq_10_mprint_25 kq_10_mprint_26 kq_04_msmall_6 kq_10_mprint_27 rfl) rfl rfl rfl (by decide +kernel) ⟨Nat.le_of_ble_eq_true rfl, Nat.le_of_ble_eq_true rfl⟩) hP hD hK hG hZ hS hA rfl hl.1 rfl (Nat.le_of_ble_eq_true rfl) dX6_putPart_188 ⟨Nat.le_of_ble_eq_true rfl, Nat.le_of_ble_eq_true rfl⟩ (fun I_92 F_93 H locs hq_91 hP hD hS => ?_)
                            try dsimp only at hq_91
                            obtain ⟨hB94, hf94, hp94⟩ := hq_91
                            refine lv_goto (tgt := 203) hx hb dX6_putPart_191 (by decide) ?_
                            refine lv_goto (tgt := 19) hx hb dX6_putPart_203 (by decide) ?_
                            exact ih19 (k + 2) I_92 F_93 ⟨hB94, ((hfJ.tr (hf57.mono (by decide) (by decide))).tr (hf94.mono (by decide) (by decide))), hp94, by omega⟩ (by omega) _ _ hP hD hS ls (lv_sub hl [1, 3, 4, 5] rfl)
                      · skip
                        refine lv_aload_n hx hb dX6_putPart_167 rfl (lv_at hl 3 rfl) ?_
                        refine lv_iload_n hx hb dX6_putPart_168 rfl (lv_at hl 5 rfl) ?_
                        have hac_95 : mfr [29, 31, 32, 33, 35, 42, 43] [20, 21, 22, 23, 24, 25, 26, 27, 28, 34, 41] I F J F_56 := (hfJ.tr (hf57.mono (by decide) (by decide)))
                        refine mk_callv (As := [.int (iz p1)]) (rest := []) ⟨hx, hb, hml, hown, hts⟩ (k_putSigns l dC dI mo ma cs J F_56 p1 H.size hB57 hp57.1 (fun e => by rw [(hac_95.2 5 (by decide))]; exact hn e) (by omega)) (cwV 1 hts (kx_gV kq_10_mprint_16 kq_10_mprint_17 kq_10_mprint_18 kq_04_msmall_6 kq_10_mprint_19 rfl) rfl rfl rfl (by decide +kernel) ⟨Nat.le_of_ble_eq_true rfl, Nat.le_of_ble_eq_true rfl⟩) hP hD hK hG hZ hS hA rfl hl.1 rfl (Nat.le_of_ble_eq_true rfl) dX6_putPart_169 ⟨Nat.le_of_ble_eq_true rfl, Nat.le_of_ble_eq_true rfl⟩ (fun I_98 F_99 H locs hq_97 hP hD hS => ?_)
                        try dsimp only at hq_97
                        obtain ⟨hB100, hf100, hd100⟩ := hq_97
                        have hp100 := mPS.put hp57 hf100 hd100
                        refine lv_goto (tgt := 203) hx hb dX6_putPart_172 (by decide) ?_
                        refine lv_goto (tgt := 19) hx hb dX6_putPart_203 (by decide) ?_
                        exact ih19 (k + 2) I_98 F_99 ⟨hB100, ((hfJ.tr (hf57.mono (by decide) (by decide))).tr (hf100.mono (by decide) (by decide))), hp100, by omega⟩ (by omega) _ _ hP hD hS ls (lv_sub hl [1, 3, 4, 5] rfl)
                  · skip
                    refine lv_aload_n hx hb dX6_putPart_109 rfl (lv_at hl 3 rfl) ?_
                    refine lv_iload hx hb dX6_putPart_110 (lv_at hl 2 rfl) ?_
                    refine lv_bipush (v := iz 110) hx hb dX6_putPart_112 (by decide) ?_
                    refine ki_icmp_ne (tgt := 122) hx hb dX6_putPart_114 (by decide) (by omega) (by omega) (by omega) (by omega) (fun c_101 => ?_) (fun c_101 => ?_)
                    · skip
                      refine lv_iload hx hb dX6_putPart_122 (lv_at hl 2 rfl) ?_
                      refine lv_bipush (v := iz 37) hx hb dX6_putPart_124 (by decide) ?_
                      refine ki_icmp_ne (tgt := 134) hx hb dX6_putPart_126 (by decide) (by omega) (by omega) (by omega) (by omega) (fun c_102 => ?_) (fun c_102 => ?_)
                      · skip
                        refine lv_iload hx hb dX6_putPart_134 (lv_at hl 0 rfl) ?_
                        refine lv_iconst (v := iz 2) hx hb dX6_putPart_136 (by decide) ?_
                        refine ki_icmp_ge (tgt := 148) hx hb dX6_putPart_137 (by decide) (by omega) (by omega) (by omega) (by omega) (fun c_103 => ?_) (fun c_103 => ?_)
                        · skip
                          refine lv_iload hx hb dX6_putPart_148 (lv_at hl 0 rfl) ?_
                          have hac_104 : mfr [29, 31, 32, 33, 35, 42, 43] [20, 21, 22, 23, 24, 25, 26, 27, 28, 34, 41] I F J F_56 := (hfJ.tr (hf57.mono (by decide) (by decide)))
                          refine mk_callv (As := [.int (iz z_53)]) (rest := []) ⟨hx, hb, hml, hown, hts⟩ (k_put l dC dI mo ma cs J F_56 z_53 H.size hB57 hp57.1) (cwV 1 hts (kx_gV kq_09_mput_12 kq_09_mput_13 kq_09_mput_14 kq_04_msmall_6 kq_09_mput_15 rfl) rfl rfl rfl (by decide +kernel) ⟨Nat.le_of_ble_eq_true rfl, Nat.le_of_ble_eq_true rfl⟩) hP hD hK hG hZ hS hA rfl hl.1 rfl (Nat.le_of_ble_eq_true rfl) dX6_putPart_150 ⟨Nat.le_of_ble_eq_true rfl, Nat.le_of_ble_eq_true rfl⟩ (fun I_107 F_108 H locs hq_106 hP hD hS => ?_)
                          try dsimp only at hq_106
                          obtain ⟨hB109, hf109, hd109⟩ := hq_106
                          have hp109 := mPS.put hp57 hf109 hd109
                          refine lv_goto (tgt := 203) hx hb dX6_putPart_153 (by decide) ?_
                          refine lv_goto (tgt := 19) hx hb dX6_putPart_203 (by decide) ?_
                          exact ih19 (k + 2) I_107 F_108 ⟨hB109, ((hfJ.tr (hf57.mono (by decide) (by decide))).tr (hf109.mono (by decide) (by decide))), hp109, by omega⟩ (by omega) _ _ hP hD hS ls (lv_sub hl [1, 3, 4, 5] rfl)
                        · skip
                          refine lv_bipush (v := iz 48) hx hb dX6_putPart_140 (by decide) ?_
                          refine lv_iload hx hb dX6_putPart_142 (lv_at hl 0 rfl) ?_
                          refine ki_iadd hx hb dX6_putPart_144 ?_
                          refine lv_goto (tgt := 150) hx hb dX6_putPart_145 (by decide) ?_
                          have hac_110 : mfr [29, 31, 32, 33, 35, 42, 43] [20, 21, 22, 23, 24, 25, 26, 27, 28, 34, 41] I F J F_56 := (hfJ.tr (hf57.mono (by decide) (by decide)))
                          refine mk_callv (As := [.int (iz (48 + z_53))]) (rest := []) ⟨hx, hb, hml, hown, hts⟩ (k_put l dC dI mo ma cs J F_56 (48 + z_53) H.size hB57 hp57.1) (cwV 1 hts (kx_gV kq_09_mput_12 kq_09_mput_13 kq_09_mput_14 kq_04_msmall_6 kq_09_mput_15 rfl) rfl rfl rfl (by decide +kernel) ⟨Nat.le_of_ble_eq_true rfl, Nat.le_of_ble_eq_true rfl⟩) hP hD hK hG hZ hS hA rfl hl.1 rfl (Nat.le_of_ble_eq_true rfl) dX6_putPart_150 ⟨Nat.le_of_ble_eq_true rfl, Nat.le_of_ble_eq_true rfl⟩ (fun I_113 F_114 H locs hq_112 hP hD hS => ?_)
                          try dsimp only at hq_112
                          obtain ⟨hB115, hf115, hd115⟩ := hq_112
                          have hp115 := mPS.put hp57 hf115 hd115
                          refine lv_goto (tgt := 203) hx hb dX6_putPart_153 (by decide) ?_
                          refine lv_goto (tgt := 19) hx hb dX6_putPart_203 (by decide) ?_
                          exact ih19 (k + 2) I_113 F_114 ⟨hB115, ((hfJ.tr (hf57.mono (by decide) (by decide))).tr (hf115.mono (by decide) (by decide))), hp115, by omega⟩ (by omega) _ _ hP hD hS ls (lv_sub hl [1, 3, 4, 5] rfl)
                      · omega
                    · omega
          · skip
            refine lv_aload_n hx hb dX6_putPart_44 rfl (lv_at hl 2 rfl) ?_
            refine lv_iload hx hb dX6_putPart_45 (lv_at hl 0 rfl) ?_
            have hac_116 : mfr [29, 31, 32, 33, 35, 42, 43] [20, 21, 22, 23, 24, 25, 26, 27, 28, 34, 41] I F J G := hfJ
            refine mk_callv (As := [.int (iz (G 36 k))]) (rest := []) ⟨hx, hb, hml, hown, hts⟩ (k_put l dC dI mo ma cs J G (G 36 k) H.size hBJ hpJ.1) (cwV 1 hts (kx_gV kq_09_mput_12 kq_09_mput_13 kq_09_mput_14 kq_04_msmall_6 kq_09_mput_15 rfl) rfl rfl rfl (by decide +kernel) ⟨Nat.le_of_ble_eq_true rfl, Nat.le_of_ble_eq_true rfl⟩) hP hD hK hG hZ hS hA rfl hl.1 rfl (Nat.le_of_ble_eq_true rfl) dX6_putPart_47 ⟨Nat.le_of_ble_eq_true rfl, Nat.le_of_ble_eq_true rfl⟩ (fun I_119 F_120 H locs hq_118 hP hD hS => ?_)
            try dsimp only at hq_118
            obtain ⟨hB121, hf121, hd121⟩ := hq_118
            have hp121 := mPS.put hpJ hf121 hd121
            refine lv_iinc (v := iz (k + 1)) (lv' := [(3, .int (iz (k + 1))), (4, .int (iz (G 36 k))), (0, .ref mo), (1, .int (iz pt)), (2, .int (iz p1))]) hx hb dX6_putPart_50 hl (k := 1) rfl (iz_add k 1) (by decide) rfl (fun ls hl => ?_)
            refine lv_goto (tgt := 203) hx hb dX6_putPart_53 (by decide) ?_
            refine lv_goto (tgt := 19) hx hb dX6_putPart_203 (by decide) ?_
            exact ih19 (k + 1) I_119 F_120 ⟨hB121, (hfJ.tr (hf121.mono (by decide) (by decide))), hp121, by omega⟩ (by omega) _ _ hP hD hS ls (lv_sub hl [0, 2, 3, 4] rfl)
    exact lp19 _ ((F 38 (pt - 1)) + 1) I F ⟨hB, mfr.rf, hps, by omega⟩ (Nat.lt_succ_self _) _ _ hP hD hS ls (lv_sub hl [0, 1, 2, 3] rfl)
  · skip
    refine lv_iconst (v := iz 0) hx hb dX6_putPart_4 (by decide) ?_
    refine lv_goto (tgt := 18) hx hb dX6_putPart_5 (by decide) ?_
    refine lv_istore_n (lv' := [(3, .int (iz 0)), (0, .ref mo), (1, .int (iz pt)), (2, .int (iz p1))]) hx hb dX6_putPart_18 rfl hl (by decide) rfl (fun ls hl => ?_)
    have lp19 : ∀ (n : Nat) (k : Int) (J : Nat → Int) (G : Nat → Int → Int), ((mB J G) ∧ (mfr [29, 31, 32, 33, 35, 42, 43] [20, 21, 22, 23, 24, 25, 26, 27, 28, 34, 41] I F J G) ∧ (mPS J G) ∧ (0 ≤ k ∧ k ≤ 66)) → (F 38 pt - k).toNat < n → ∀ (H : Heap) (locs : List Loc), va_P (dC, dI) kxCl (mW mo ma cs J G) H → va_D A (mW mo ma cs J G) → va_S A s.heap H locs → ∀ ls : Array Slot, lv_has ls 6 [(3, .int (iz k)), (0, .ref mo), (1, .int (iz pt)), (2, .int (iz p1))] → W p l e (headSpec [.code yX6_putPart cX6_putPart 6 none] ({ frames := 5, cells := 0, slots := 0, locals := 111 })).room s m ([.ref mo, .int (iz pt), .int (iz p1)] : List Value).toArray below meth c H locs 0 0 QQ (F0 m 19 ls []) := by
      intro n
      induction n with
      | zero => intro k J G hinv hm; exact absurd hm (Nat.not_lt_zero _)
      | succ n ih19 =>
        intro k J G hinv hm H locs hP hD hS ls hl
        obtain ⟨hBJ, hfJ, hpJ, hk⟩ := hinv
        have e38 := congrFun (hfJ.2 38 (by decide)) pt
        refine lv_iload_n hx hb dX6_putPart_19 rfl (lv_at hl 0 rfl) ?_
        refine lv_aload_n hx hb dX6_putPart_20 rfl (lv_at hl 1 rfl) ?_
        refine va_get (D := (dC, dI)) (ci := 6) (v := .ref (ma 38)) (C := RX6) (T := TX6) (N := 44) hx hb hts kt_X6 hown hK hP 0 rfl rfl 38 (by decide) (kx_word hG kq_09_mput_5 rfl) (fun _ h9 => h9) rfl dX6_putPart_21 ?_
        refine lv_iload_n hx hb dX6_putPart_24 rfl (lv_at hl 2 rfl) ?_
        refine ki_iald (F := G 38) hx hb hK hP 26 25 rfl rfl (by omega) (by omega) (by decide) dX6_putPart_25 ?_
        have hbd_122 := hBJ.2 38 pt
        refine ki_icmp_ge (tgt := 206) hx hb dX6_putPart_26 (by decide) (by omega) (by omega) (by omega) (by omega) (fun c_123 => ?_) (fun c_123 => ?_)
        · skip
          rw [← hQe]
          exact mk_ret hx hb hr hlocks hP hD hK hS dX6_putPart_206 (⟨hBJ, hfJ, hpJ⟩)
        · skip
          refine lv_aload_n hx hb dX6_putPart_29 rfl (lv_at hl 1 rfl) ?_
          refine va_get (D := (dC, dI)) (ci := 6) (v := .ref (ma 36)) (C := RX6) (T := TX6) (N := 44) hx hb hts kt_X6 hown hK hP 0 rfl rfl 36 (by decide) (kx_word hG kq_04_msmall_20 rfl) (fun _ h9 => h9) rfl dX6_putPart_30 ?_
          refine lv_iload_n hx hb dX6_putPart_33 rfl (lv_at hl 0 rfl) ?_
          refine ki_iald (F := G 36) hx hb hK hP 25 24 rfl rfl (by omega) (by omega) (by decide) dX6_putPart_34 ?_
          have hbd_124 := hBJ.2 36 k
          refine lv_istore (lv' := [(4, .int (iz (G 36 k))), (3, .int (iz k)), (0, .ref mo), (1, .int (iz pt)), (2, .int (iz p1))]) hx hb dX6_putPart_35 hl (by decide) rfl (fun ls hl => ?_)
          refine lv_iload hx hb dX6_putPart_37 (lv_at hl 0 rfl) ?_
          refine lv_bipush (v := iz 37) hx hb dX6_putPart_39 (by decide) ?_
          refine ki_icmp_eq (tgt := 56) hx hb dX6_putPart_41 (by decide) (by omega) (by omega) (by omega) (by omega) (fun c_125 => ?_) (fun c_125 => ?_)
          · skip
            refine lv_aload_n hx hb dX6_putPart_56 rfl (lv_at hl 2 rfl) ?_
            refine va_get (D := (dC, dI)) (ci := 6) (v := .ref (ma 36)) (C := RX6) (T := TX6) (N := 44) hx hb hts kt_X6 hown hK hP 0 rfl rfl 36 (by decide) (kx_word hG kq_04_msmall_20 rfl) (fun _ h9 => h9) rfl dX6_putPart_57 ?_
            refine lv_iload_n hx hb dX6_putPart_60 rfl (lv_at hl 1 rfl) ?_
            refine lv_iconst (v := iz 1) hx hb dX6_putPart_61 (by decide) ?_
            refine ki_iadd hx hb dX6_putPart_62 ?_
            refine ki_iald (F := G 36) hx hb hK hP 25 24 rfl rfl (by omega) (by omega) (by decide) dX6_putPart_63 ?_
            have hbd_126 := hBJ.2 36 (k + 1)
            refine lv_istore (lv' := [(4, .int (iz (G 36 (k + 1)))), (3, .int (iz k)), (0, .ref mo), (1, .int (iz pt)), (2, .int (iz p1))]) hx hb dX6_putPart_64 hl (by decide) rfl (fun ls hl => ?_)
            refine lv_iload_n hx hb dX6_putPart_66 rfl (lv_at hl 1 rfl) ?_
            refine lv_iconst (v := iz 2) hx hb dX6_putPart_67 (by decide) ?_
            refine ki_iadd hx hb dX6_putPart_68 ?_
            refine lv_istore_n (lv' := [(3, .int (iz (k + 2))), (4, .int (iz (G 36 (k + 1)))), (0, .ref mo), (1, .int (iz pt)), (2, .int (iz p1))]) hx hb dX6_putPart_69 rfl hl (by decide) rfl (fun ls hl => ?_)
            refine lv_iload hx hb dX6_putPart_70 (lv_at hl 1 rfl) ?_
            refine lv_bipush (v := iz 103) hx hb dX6_putPart_72 (by decide) ?_
            refine ki_icmp_ne (tgt := 85) hx hb dX6_putPart_74 (by decide) (by omega) (by omega) (by omega) (by omega) (fun c_127 => ?_) (fun c_127 => ?_)
            · skip
              refine lv_iconst (v := iz 0) hx hb dX6_putPart_85 (by decide) ?_
              refine lv_istore (lv' := [(5, .int (iz 0)), (3, .int (iz (k + 2))), (4, .int (iz (G 36 (k + 1)))), (0, .ref mo), (1, .int (iz pt)), (2, .int (iz p1))]) hx hb dX6_putPart_86 hl (by decide) rfl (fun ls hl => ?_)
              refine lv_iload hx hb dX6_putPart_88 (lv_at hl 2 rfl) ?_
              refine lv_bipush (v := iz 110) hx hb dX6_putPart_90 (by decide) ?_
              refine ki_icmp_eq (tgt := 109) hx hb dX6_putPart_92 (by decide) (by omega) (by omega) (by omega) (by omega) (fun c_128 => ?_) (fun c_128 => ?_)
              · skip
                refine lv_aload_n hx hb dX6_putPart_109 rfl (lv_at hl 3 rfl) ?_
                refine lv_iload hx hb dX6_putPart_110 (lv_at hl 2 rfl) ?_
                refine lv_bipush (v := iz 110) hx hb dX6_putPart_112 (by decide) ?_
                refine ki_icmp_ne (tgt := 122) hx hb dX6_putPart_114 (by decide) (by omega) (by omega) (by omega) (by omega) (fun c_129 => ?_) (fun c_129 => ?_)
                · omega
                · skip
                  refine lv_bipush (v := iz 10) hx hb dX6_putPart_117 (by decide) ?_
                  refine lv_goto (tgt := 150) hx hb dX6_putPart_119 (by decide) ?_
                  have hac_130 : mfr [29, 31, 32, 33, 35, 42, 43] [20, 21, 22, 23, 24, 25, 26, 27, 28, 34, 41] I F J G := hfJ
                  refine mk_callv (As := [.int (iz 10)]) (rest := []) ⟨hx, hb, hml, hown, hts⟩ (k_put l dC dI mo ma cs J G 10 H.size hBJ hpJ.1) (cwV 1 hts (kx_gV kq_09_mput_12 kq_09_mput_13 kq_09_mput_14 kq_04_msmall_6 kq_09_mput_15 rfl) rfl rfl rfl (by decide +kernel) ⟨Nat.le_of_ble_eq_true rfl, Nat.le_of_ble_eq_true rfl⟩) hP hD hK hG hZ hS hA rfl hl.1 rfl (Nat.le_of_ble_eq_true rfl) dX6_putPart_150 ⟨Nat.le_of_ble_eq_true rfl, Nat.le_of_ble_eq_true rfl⟩ (fun I_133 F_134 H locs hq_132 hP hD hS => ?_)
                  try dsimp only at hq_132
                  obtain ⟨hB135, hf135, hd135⟩ := hq_132
                  have hp135 := mPS.put hpJ hf135 hd135
                  refine lv_goto (tgt := 203) hx hb dX6_putPart_153 (by decide) ?_
                  refine lv_goto (tgt := 19) hx hb dX6_putPart_203 (by decide) ?_
                  exact ih19 (k + 2) I_133 F_134 ⟨hB135, (hfJ.tr (hf135.mono (by decide) (by decide))), hp135, by omega⟩ (by omega) _ _ hP hD hS ls (lv_sub hl [1, 3, 4, 5] rfl)
              · skip
                refine lv_iload hx hb dX6_putPart_95 (lv_at hl 2 rfl) ?_
                refine lv_bipush (v := iz 37) hx hb dX6_putPart_97 (by decide) ?_
                refine ki_icmp_eq (tgt := 109) hx hb dX6_putPart_99 (by decide) (by omega) (by omega) (by omega) (by omega) (fun c_136 => ?_) (fun c_136 => ?_)
                · skip
                  refine lv_aload_n hx hb dX6_putPart_109 rfl (lv_at hl 3 rfl) ?_
                  refine lv_iload hx hb dX6_putPart_110 (lv_at hl 2 rfl) ?_
                  refine lv_bipush (v := iz 110) hx hb dX6_putPart_112 (by decide) ?_
                  refine ki_icmp_ne (tgt := 122) hx hb dX6_putPart_114 (by decide) (by omega) (by omega) (by omega) (by omega) (fun c_137 => ?_) (fun c_137 => ?_)
                  · skip
                    refine lv_iload hx hb dX6_putPart_122 (lv_at hl 2 rfl) ?_
                    refine lv_bipush (v := iz 37) hx hb dX6_putPart_124 (by decide) ?_
                    refine ki_icmp_ne (tgt := 134) hx hb dX6_putPart_126 (by decide) (by omega) (by omega) (by omega) (by omega) (fun c_138 => ?_) (fun c_138 => ?_)
                    · omega
                    · skip
                      refine lv_bipush (v := iz 37) hx hb dX6_putPart_129 (by decide) ?_
                      refine lv_goto (tgt := 150) hx hb dX6_putPart_131 (by decide) ?_
                      have hac_139 : mfr [29, 31, 32, 33, 35, 42, 43] [20, 21, 22, 23, 24, 25, 26, 27, 28, 34, 41] I F J G := hfJ
                      refine mk_callv (As := [.int (iz 37)]) (rest := []) ⟨hx, hb, hml, hown, hts⟩ (k_put l dC dI mo ma cs J G 37 H.size hBJ hpJ.1) (cwV 1 hts (kx_gV kq_09_mput_12 kq_09_mput_13 kq_09_mput_14 kq_04_msmall_6 kq_09_mput_15 rfl) rfl rfl rfl (by decide +kernel) ⟨Nat.le_of_ble_eq_true rfl, Nat.le_of_ble_eq_true rfl⟩) hP hD hK hG hZ hS hA rfl hl.1 rfl (Nat.le_of_ble_eq_true rfl) dX6_putPart_150 ⟨Nat.le_of_ble_eq_true rfl, Nat.le_of_ble_eq_true rfl⟩ (fun I_142 F_143 H locs hq_141 hP hD hS => ?_)
                      try dsimp only at hq_141
                      obtain ⟨hB144, hf144, hd144⟩ := hq_141
                      have hp144 := mPS.put hpJ hf144 hd144
                      refine lv_goto (tgt := 203) hx hb dX6_putPart_153 (by decide) ?_
                      refine lv_goto (tgt := 19) hx hb dX6_putPart_203 (by decide) ?_
                      exact ih19 (k + 2) I_142 F_143 ⟨hB144, (hfJ.tr (hf144.mono (by decide) (by decide))), hp144, by omega⟩ (by omega) _ _ hP hD hS ls (lv_sub hl [1, 3, 4, 5] rfl)
                  · omega
                · skip
                  refine lv_iload hx hb dX6_putPart_102 (lv_at hl 2 rfl) ?_
                  refine lv_bipush (v := iz 103) hx hb dX6_putPart_104 (by decide) ?_
                  refine ki_icmp_ne (tgt := 156) hx hb dX6_putPart_106 (by decide) (by omega) (by omega) (by omega) (by omega) (fun c_145 => ?_) (fun c_145 => ?_)
                  · skip
                    refine lv_iload_n hx hb dX6_putPart_156 rfl (lv_at hl 4 rfl) ?_
                    refine ki_if_le (tgt := 175) hx hb dX6_putPart_157 (by decide) (by omega) (by omega) (fun c_146 => ?_) (fun c_146 => ?_)
                    · skip
                      refine lv_iload_n hx hb dX6_putPart_175 rfl (lv_at hl 4 rfl) ?_
                      refine ki_if_le (tgt := 194) hx hb dX6_putPart_176 (by decide) (by omega) (by omega) (fun c_147 => ?_) (fun c_147 => ?_)
                      · skip
                        refine lv_iload_n hx hb dX6_putPart_194 rfl (lv_at hl 4 rfl) ?_
                        refine ki_if_le (tgt := 203) hx hb dX6_putPart_195 (by decide) (by omega) (by omega) (fun c_148 => ?_) (fun c_148 => ?_)
                        · skip
                          refine lv_goto (tgt := 19) hx hb dX6_putPart_203 (by decide) ?_
                          exact ih19 (k + 2) J G ⟨hBJ, hfJ, hpJ, by omega⟩ (by omega) _ _ hP hD hS ls (lv_sub hl [1, 3, 4, 5] rfl)
                        · omega
                      · omega
                    · skip
                      refine lv_iload hx hb dX6_putPart_160 (lv_at hl 2 rfl) ?_
                      refine lv_bipush (v := iz 119) hx hb dX6_putPart_162 (by decide) ?_
                      refine ki_icmp_ne (tgt := 175) hx hb dX6_putPart_164 (by decide) (by omega) (by omega) (by omega) (by omega) (fun c_149 => ?_) (fun c_149 => ?_)
                      · skip
                        refine lv_iload_n hx hb dX6_putPart_175 rfl (lv_at hl 4 rfl) ?_
                        refine ki_if_le (tgt := 194) hx hb dX6_putPart_176 (by decide) (by omega) (by omega) (fun c_150 => ?_) (fun c_150 => ?_)
                        · omega
                        · skip
                          refine lv_iload hx hb dX6_putPart_179 (lv_at hl 2 rfl) ?_
                          refine lv_bipush (v := iz 112) hx hb dX6_putPart_181 (by decide) ?_
                          refine ki_icmp_ne (tgt := 194) hx hb dX6_putPart_183 (by decide) (by omega) (by omega) (by omega) (by omega) (fun c_151 => ?_) (fun c_151 => ?_)
                          · skip
                            refine lv_iload_n hx hb dX6_putPart_194 rfl (lv_at hl 4 rfl) ?_
                            refine ki_if_le (tgt := 203) hx hb dX6_putPart_195 (by decide) (by omega) (by omega) (fun c_152 => ?_) (fun c_152 => ?_)
                            · omega
                            · skip
                              refine lv_aload_n hx hb dX6_putPart_198 rfl (lv_at hl 3 rfl) ?_
                              refine lv_iload_n hx hb dX6_putPart_199 rfl (lv_at hl 5 rfl) ?_
                              have hac_153 : mfr [29, 31, 32, 33, 35, 42, 43] [20, 21, 22, 23, 24, 25, 26, 27, 28, 34, 41] I F J G := hfJ
                              refine mk_callv (As := [.int (iz p1)]) (rest := []) ⟨hx, hb, hml, hown, hts⟩ (k_putShown l dC dI mo ma cs J G p1 H.size hBJ (by rw [(hac_153.1 1 (by decide))]; exact hc) (fun e => by rw [(hac_153.2 5 (by decide))]; exact hn e) (fun e => by rw [(hac_153.2 13 (by decide))]; exact hmy e) (by rw [(hac_153.1 1 (by decide))]; exact mSm.fr hsm (hac_153.2 17 (by decide)) (hac_153.2 2 (by decide))) (fun e k x1 x2 x3 x4 => by rw [(hac_153.1 1 (by decide))] at x2 ⊢; rw [(hac_153.2 13 (by decide))] at x4; rw [(hac_153.2 12 (by decide))]; exact hse e k x1 x2 x3 x4) (by rw [(hac_153.1 1 (by decide)), (hac_153.2 13 (by decide))]; exact hsu) hpJ.1 (by omega) (by omega)) (cwV 1 hts (kx_gV kq_10_mprint_20 kq_10_mprint_21 kq_10_mprint_22 kq_04_msmall_6 kq_10_mprint_23 rfl) rfl rfl rfl (by decide +kernel) ⟨Nat.le_of_ble_eq_true rfl, Nat.le_of_ble_eq_true rfl⟩) hP hD hK hG hZ hS hA rfl hl.1 rfl (Nat.le_of_ble_eq_true rfl) dX6_putPart_200 ⟨Nat.le_of_ble_eq_true rfl, Nat.le_of_ble_eq_true rfl⟩ (fun I_156 F_157 H locs hq_155 hP hD hS => ?_)
                              try dsimp only at hq_155
                              obtain ⟨hB158, hf158, hd158⟩ := hq_155
                              have hp158 := mPS.shw hpJ hf158 hd158
                              refine lv_goto (tgt := 19) hx hb dX6_putPart_203 (by decide) ?_
                              exact ih19 (k + 2) I_156 F_157 ⟨hB158, (hfJ.tr (hf158.mono (by decide) (by decide))), hp158, by omega⟩ (by omega) _ _ hP hD hS ls (lv_sub hl [1, 3, 4, 5] rfl)
                          · skip
                            refine lv_aload_n hx hb dX6_putPart_186 rfl (lv_at hl 3 rfl) ?_
                            refine lv_iload_n hx hb dX6_putPart_187 rfl (lv_at hl 5 rfl) ?_
                            have hac_159 : mfr [29, 31, 32, 33, 35, 42, 43] [20, 21, 22, 23, 24, 25, 26, 27, 28, 34, 41] I F J G := hfJ
                            refine mk_callv (As := [.int (iz p1)]) (rest := []) ⟨hx, hb, hml, hown, hts⟩ (k_putAll l dC dI mo ma cs J G p1 H.size hBJ (by rw [(hac_159.1 1 (by decide))]; exact hc) (fun e => by rw [(hac_159.2 10 (by decide)), (hac_159.2 11 (by decide))]; exact hln e) (fun j => by rw [(hac_159.2 7 (by decide)), (hac_159.2 8 (by decide))]; exact hmf j) hpJ (by omega) (by omega)) (cwV 1 hts (kx_gV kq_10_mprint_24 kq_10_mprint_25 kq_10_mprint_26 kq_04_msmall_6 kq_10_mprint_27 rfl) rfl rfl rfl (by decide +kernel) ⟨Nat.le_of_ble_eq_true rfl, Nat.le_of_ble_eq_true rfl⟩) hP hD hK hG hZ hS hA rfl hl.1 rfl (Nat.le_of_ble_eq_true rfl) dX6_putPart_188 ⟨Nat.le_of_ble_eq_true rfl, Nat.le_of_ble_eq_true rfl⟩ (fun I_162 F_163 H locs hq_161 hP hD hS => ?_)
                            try dsimp only at hq_161
                            obtain ⟨hB164, hf164, hp164⟩ := hq_161
                            refine lv_goto (tgt := 203) hx hb dX6_putPart_191 (by decide) ?_
                            refine lv_goto (tgt := 19) hx hb dX6_putPart_203 (by decide) ?_
                            exact ih19 (k + 2) I_162 F_163 ⟨hB164, (hfJ.tr (hf164.mono (by decide) (by decide))), hp164, by omega⟩ (by omega) _ _ hP hD hS ls (lv_sub hl [1, 3, 4, 5] rfl)
                      · skip
                        refine lv_aload_n hx hb dX6_putPart_167 rfl (lv_at hl 3 rfl) ?_
                        refine lv_iload_n hx hb dX6_putPart_168 rfl (lv_at hl 5 rfl) ?_
                        have hac_165 : mfr [29, 31, 32, 33, 35, 42, 43] [20, 21, 22, 23, 24, 25, 26, 27, 28, 34, 41] I F J G := hfJ
                        refine mk_callv (As := [.int (iz p1)]) (rest := []) ⟨hx, hb, hml, hown, hts⟩ (k_putSigns l dC dI mo ma cs J G p1 H.size hBJ hpJ.1 (fun e => by rw [(hac_165.2 5 (by decide))]; exact hn e) (by omega)) (cwV 1 hts (kx_gV kq_10_mprint_16 kq_10_mprint_17 kq_10_mprint_18 kq_04_msmall_6 kq_10_mprint_19 rfl) rfl rfl rfl (by decide +kernel) ⟨Nat.le_of_ble_eq_true rfl, Nat.le_of_ble_eq_true rfl⟩) hP hD hK hG hZ hS hA rfl hl.1 rfl (Nat.le_of_ble_eq_true rfl) dX6_putPart_169 ⟨Nat.le_of_ble_eq_true rfl, Nat.le_of_ble_eq_true rfl⟩ (fun I_168 F_169 H locs hq_167 hP hD hS => ?_)
                        try dsimp only at hq_167
                        obtain ⟨hB170, hf170, hd170⟩ := hq_167
                        have hp170 := mPS.put hpJ hf170 hd170
                        refine lv_goto (tgt := 203) hx hb dX6_putPart_172 (by decide) ?_
                        refine lv_goto (tgt := 19) hx hb dX6_putPart_203 (by decide) ?_
                        exact ih19 (k + 2) I_168 F_169 ⟨hB170, (hfJ.tr (hf170.mono (by decide) (by decide))), hp170, by omega⟩ (by omega) _ _ hP hD hS ls (lv_sub hl [1, 3, 4, 5] rfl)
                  · omega
            · skip
              refine lv_aload_n hx hb dX6_putPart_77 rfl (lv_at hl 2 rfl) ?_
              refine lv_iload_n hx hb dX6_putPart_78 rfl (lv_at hl 4 rfl) ?_
              have hac_171 : mfr [29, 31, 32, 33, 35, 42, 43] [20, 21, 22, 23, 24, 25, 26, 27, 28, 34, 41] I F J G := hfJ
              refine mk_calli (As := [.int (iz p1)]) (rest := []) ⟨hx, hb, hml, hown, hts⟩ (k_groupOf l dC dI mo ma cs J G p1 H.size hBJ (by rw [(hac_171.1 1 (by decide))]; exact hc) (fun e => by rw [(hac_171.2 5 (by decide))]; exact hn e) (hlv.fr (hac_171.1 1 (by decide)) (hac_171.2 2 (by decide)) (hac_171.2 3 (by decide))) (by rw [(hac_171.1 1 (by decide))]; exact mSm.fr hsm (hac_171.2 17 (by decide)) (hac_171.2 2 (by decide))) (by rw [hac_171.1 1 (by decide)]; exact h0)) (cwV 1 hts (kx_gV kq_10_mprint_28 kq_10_mprint_29 kq_10_mprint_30 kq_04_msmall_6 kq_10_mprint_31 rfl) rfl rfl rfl (by decide +kernel) ⟨Nat.le_of_ble_eq_true rfl, Nat.le_of_ble_eq_true rfl⟩) hP hD hK hG hZ hS hA rfl hl.1 rfl (Nat.le_of_ble_eq_true rfl) dX6_putPart_79 ⟨Nat.le_of_ble_eq_true rfl, Nat.le_of_ble_eq_true rfl⟩ (fun z_172 I_174 F_175 H locs hq_173 hP hD hS => ?_)
              try dsimp only at hq_173
              obtain ⟨rfl, hB176, hf176, hr176⟩ := hq_173
              have hp176 := mPS.scr hpJ hf176
              refine lv_goto (tgt := 86) hx hb dX6_putPart_82 (by decide) ?_
              refine lv_istore (lv' := [(5, .int (iz z_172)), (3, .int (iz (k + 2))), (4, .int (iz (G 36 (k + 1)))), (0, .ref mo), (1, .int (iz pt)), (2, .int (iz p1))]) hx hb dX6_putPart_86 hl (by decide) rfl (fun ls hl => ?_)
              refine lv_iload hx hb dX6_putPart_88 (lv_at hl 2 rfl) ?_
              refine lv_bipush (v := iz 110) hx hb dX6_putPart_90 (by decide) ?_
              refine ki_icmp_eq (tgt := 109) hx hb dX6_putPart_92 (by decide) (by omega) (by omega) (by omega) (by omega) (fun c_177 => ?_) (fun c_177 => ?_)
              · skip
                refine lv_aload_n hx hb dX6_putPart_109 rfl (lv_at hl 3 rfl) ?_
                refine lv_iload hx hb dX6_putPart_110 (lv_at hl 2 rfl) ?_
                refine lv_bipush (v := iz 110) hx hb dX6_putPart_112 (by decide) ?_
                refine ki_icmp_ne (tgt := 122) hx hb dX6_putPart_114 (by decide) (by omega) (by omega) (by omega) (by omega) (fun c_178 => ?_) (fun c_178 => ?_)
                · omega
                · skip
                  refine lv_bipush (v := iz 10) hx hb dX6_putPart_117 (by decide) ?_
                  refine lv_goto (tgt := 150) hx hb dX6_putPart_119 (by decide) ?_
                  have hac_179 : mfr [29, 31, 32, 33, 35, 42, 43] [20, 21, 22, 23, 24, 25, 26, 27, 28, 34, 41] I F J F_175 := (hfJ.tr (hf176.mono (by decide) (by decide)))
                  refine mk_callv (As := [.int (iz 10)]) (rest := []) ⟨hx, hb, hml, hown, hts⟩ (k_put l dC dI mo ma cs J F_175 10 H.size hB176 hp176.1) (cwV 1 hts (kx_gV kq_09_mput_12 kq_09_mput_13 kq_09_mput_14 kq_04_msmall_6 kq_09_mput_15 rfl) rfl rfl rfl (by decide +kernel) ⟨Nat.le_of_ble_eq_true rfl, Nat.le_of_ble_eq_true rfl⟩) hP hD hK hG hZ hS hA rfl hl.1 rfl (Nat.le_of_ble_eq_true rfl) dX6_putPart_150 ⟨Nat.le_of_ble_eq_true rfl, Nat.le_of_ble_eq_true rfl⟩ (fun I_182 F_183 H locs hq_181 hP hD hS => ?_)
                  try dsimp only at hq_181
                  obtain ⟨hB184, hf184, hd184⟩ := hq_181
                  have hp184 := mPS.put hp176 hf184 hd184
                  refine lv_goto (tgt := 203) hx hb dX6_putPart_153 (by decide) ?_
                  refine lv_goto (tgt := 19) hx hb dX6_putPart_203 (by decide) ?_
                  exact ih19 (k + 2) I_182 F_183 ⟨hB184, ((hfJ.tr (hf176.mono (by decide) (by decide))).tr (hf184.mono (by decide) (by decide))), hp184, by omega⟩ (by omega) _ _ hP hD hS ls (lv_sub hl [1, 3, 4, 5] rfl)
              · skip
                refine lv_iload hx hb dX6_putPart_95 (lv_at hl 2 rfl) ?_
                refine lv_bipush (v := iz 37) hx hb dX6_putPart_97 (by decide) ?_
                refine ki_icmp_eq (tgt := 109) hx hb dX6_putPart_99 (by decide) (by omega) (by omega) (by omega) (by omega) (fun c_185 => ?_) (fun c_185 => ?_)
                · skip
                  refine lv_aload_n hx hb dX6_putPart_109 rfl (lv_at hl 3 rfl) ?_
                  refine lv_iload hx hb dX6_putPart_110 (lv_at hl 2 rfl) ?_
                  refine lv_bipush (v := iz 110) hx hb dX6_putPart_112 (by decide) ?_
                  refine ki_icmp_ne (tgt := 122) hx hb dX6_putPart_114 (by decide) (by omega) (by omega) (by omega) (by omega) (fun c_186 => ?_) (fun c_186 => ?_)
                  · skip
                    refine lv_iload hx hb dX6_putPart_122 (lv_at hl 2 rfl) ?_
                    refine lv_bipush (v := iz 37) hx hb dX6_putPart_124 (by decide) ?_
                    refine ki_icmp_ne (tgt := 134) hx hb dX6_putPart_126 (by decide) (by omega) (by omega) (by omega) (by omega) (fun c_187 => ?_) (fun c_187 => ?_)
                    · omega
                    · skip
                      refine lv_bipush (v := iz 37) hx hb dX6_putPart_129 (by decide) ?_
                      refine lv_goto (tgt := 150) hx hb dX6_putPart_131 (by decide) ?_
                      have hac_188 : mfr [29, 31, 32, 33, 35, 42, 43] [20, 21, 22, 23, 24, 25, 26, 27, 28, 34, 41] I F J F_175 := (hfJ.tr (hf176.mono (by decide) (by decide)))
                      refine mk_callv (As := [.int (iz 37)]) (rest := []) ⟨hx, hb, hml, hown, hts⟩ (k_put l dC dI mo ma cs J F_175 37 H.size hB176 hp176.1) (cwV 1 hts (kx_gV kq_09_mput_12 kq_09_mput_13 kq_09_mput_14 kq_04_msmall_6 kq_09_mput_15 rfl) rfl rfl rfl (by decide +kernel) ⟨Nat.le_of_ble_eq_true rfl, Nat.le_of_ble_eq_true rfl⟩) hP hD hK hG hZ hS hA rfl hl.1 rfl (Nat.le_of_ble_eq_true rfl) dX6_putPart_150 ⟨Nat.le_of_ble_eq_true rfl, Nat.le_of_ble_eq_true rfl⟩ (fun I_191 F_192 H locs hq_190 hP hD hS => ?_)
                      try dsimp only at hq_190
                      obtain ⟨hB193, hf193, hd193⟩ := hq_190
                      have hp193 := mPS.put hp176 hf193 hd193
                      refine lv_goto (tgt := 203) hx hb dX6_putPart_153 (by decide) ?_
                      refine lv_goto (tgt := 19) hx hb dX6_putPart_203 (by decide) ?_
                      exact ih19 (k + 2) I_191 F_192 ⟨hB193, ((hfJ.tr (hf176.mono (by decide) (by decide))).tr (hf193.mono (by decide) (by decide))), hp193, by omega⟩ (by omega) _ _ hP hD hS ls (lv_sub hl [1, 3, 4, 5] rfl)
                  · omega
                · skip
                  refine lv_iload hx hb dX6_putPart_102 (lv_at hl 2 rfl) ?_
                  refine lv_bipush (v := iz 103) hx hb dX6_putPart_104 (by decide) ?_
                  refine ki_icmp_ne (tgt := 156) hx hb dX6_putPart_106 (by decide) (by omega) (by omega) (by omega) (by omega) (fun c_194 => ?_) (fun c_194 => ?_)
                  · skip
                    refine lv_iload_n hx hb dX6_putPart_156 rfl (lv_at hl 4 rfl) ?_
                    refine ki_if_le (tgt := 175) hx hb dX6_putPart_157 (by decide) (by omega) (by omega) (fun c_195 => ?_) (fun c_195 => ?_)
                    · skip
                      refine lv_iload_n hx hb dX6_putPart_175 rfl (lv_at hl 4 rfl) ?_
                      refine ki_if_le (tgt := 194) hx hb dX6_putPart_176 (by decide) (by omega) (by omega) (fun c_196 => ?_) (fun c_196 => ?_)
                      · skip
                        refine lv_iload_n hx hb dX6_putPart_194 rfl (lv_at hl 4 rfl) ?_
                        refine ki_if_le (tgt := 203) hx hb dX6_putPart_195 (by decide) (by omega) (by omega) (fun c_197 => ?_) (fun c_197 => ?_)
                        · skip
                          refine lv_goto (tgt := 19) hx hb dX6_putPart_203 (by decide) ?_
                          exact ih19 (k + 2) J F_175 ⟨hB176, (hfJ.tr (hf176.mono (by decide) (by decide))), hp176, by omega⟩ (by omega) _ _ hP hD hS ls (lv_sub hl [1, 3, 4, 5] rfl)
                        · omega
                      · omega
                    · skip
                      refine lv_iload hx hb dX6_putPart_160 (lv_at hl 2 rfl) ?_
                      refine lv_bipush (v := iz 119) hx hb dX6_putPart_162 (by decide) ?_
                      refine ki_icmp_ne (tgt := 175) hx hb dX6_putPart_164 (by decide) (by omega) (by omega) (by omega) (by omega) (fun c_198 => ?_) (fun c_198 => ?_)
                      · skip
                        refine lv_iload_n hx hb dX6_putPart_175 rfl (lv_at hl 4 rfl) ?_
                        refine ki_if_le (tgt := 194) hx hb dX6_putPart_176 (by decide) (by omega) (by omega) (fun c_199 => ?_) (fun c_199 => ?_)
                        · omega
                        · skip
                          refine lv_iload hx hb dX6_putPart_179 (lv_at hl 2 rfl) ?_
                          refine lv_bipush (v := iz 112) hx hb dX6_putPart_181 (by decide) ?_
                          refine ki_icmp_ne (tgt := 194) hx hb dX6_putPart_183 (by decide) (by omega) (by omega) (by omega) (by omega) (fun c_200 => ?_) (fun c_200 => ?_)
                          · skip
                            refine lv_iload_n hx hb dX6_putPart_194 rfl (lv_at hl 4 rfl) ?_
                            refine ki_if_le (tgt := 203) hx hb dX6_putPart_195 (by decide) (by omega) (by omega) (fun c_201 => ?_) (fun c_201 => ?_)
                            · omega
                            · skip
                              refine lv_aload_n hx hb dX6_putPart_198 rfl (lv_at hl 3 rfl) ?_
                              refine lv_iload_n hx hb dX6_putPart_199 rfl (lv_at hl 5 rfl) ?_
                              have hac_202 : mfr [29, 31, 32, 33, 35, 42, 43] [20, 21, 22, 23, 24, 25, 26, 27, 28, 34, 41] I F J F_175 := (hfJ.tr (hf176.mono (by decide) (by decide)))
                              refine mk_callv (As := [.int (iz p1)]) (rest := []) ⟨hx, hb, hml, hown, hts⟩ (k_putShown l dC dI mo ma cs J F_175 p1 H.size hB176 (by rw [(hac_202.1 1 (by decide))]; exact hc) (fun e => by rw [(hac_202.2 5 (by decide))]; exact hn e) (fun e => by rw [(hac_202.2 13 (by decide))]; exact hmy e) (by rw [(hac_202.1 1 (by decide))]; exact mSm.fr hsm (hac_202.2 17 (by decide)) (hac_202.2 2 (by decide))) (fun e k x1 x2 x3 x4 => by rw [(hac_202.1 1 (by decide))] at x2 ⊢; rw [(hac_202.2 13 (by decide))] at x4; rw [(hac_202.2 12 (by decide))]; exact hse e k x1 x2 x3 x4) (by rw [(hac_202.1 1 (by decide)), (hac_202.2 13 (by decide))]; exact hsu) hp176.1 (by omega) (by omega)) (cwV 1 hts (kx_gV kq_10_mprint_20 kq_10_mprint_21 kq_10_mprint_22 kq_04_msmall_6 kq_10_mprint_23 rfl) rfl rfl rfl (by decide +kernel) ⟨Nat.le_of_ble_eq_true rfl, Nat.le_of_ble_eq_true rfl⟩) hP hD hK hG hZ hS hA rfl hl.1 rfl (Nat.le_of_ble_eq_true rfl) dX6_putPart_200 ⟨Nat.le_of_ble_eq_true rfl, Nat.le_of_ble_eq_true rfl⟩ (fun I_205 F_206 H locs hq_204 hP hD hS => ?_)
                              try dsimp only at hq_204
                              obtain ⟨hB207, hf207, hd207⟩ := hq_204
                              have hp207 := mPS.shw hp176 hf207 hd207
                              refine lv_goto (tgt := 19) hx hb dX6_putPart_203 (by decide) ?_
                              exact ih19 (k + 2) I_205 F_206 ⟨hB207, ((hfJ.tr (hf176.mono (by decide) (by decide))).tr (hf207.mono (by decide) (by decide))), hp207, by omega⟩ (by omega) _ _ hP hD hS ls (lv_sub hl [1, 3, 4, 5] rfl)
                          · skip
                            refine lv_aload_n hx hb dX6_putPart_186 rfl (lv_at hl 3 rfl) ?_
                            refine lv_iload_n hx hb dX6_putPart_187 rfl (lv_at hl 5 rfl) ?_
                            have hac_208 : mfr [29, 31, 32, 33, 35, 42, 43] [20, 21, 22, 23, 24, 25, 26, 27, 28, 34, 41] I F J F_175 := (hfJ.tr (hf176.mono (by decide) (by decide)))
                            refine mk_callv (As := [.int (iz p1)]) (rest := []) ⟨hx, hb, hml, hown, hts⟩ (k_putAll l dC dI mo ma cs J F_175 p1 H.size hB176 (by rw [(hac_208.1 1 (by decide))]; exact hc) (fun e => by rw [(hac_208.2 10 (by decide)), (hac_208.2 11 (by decide))]; exact hln e) (fun j => by rw [(hac_208.2 7 (by decide)), (hac_208.2 8 (by decide))]; exact hmf j) hp176 (by omega) (by omega)) (cwV 1 hts (kx_gV kq_10_mprint_24 kq_10_mprint_25 kq_10_mprint_26 kq_04_msmall_6 kq_10_mprint_27 rfl) rfl rfl rfl (by decide +kernel) ⟨Nat.le_of_ble_eq_true rfl, Nat.le_of_ble_eq_true rfl⟩) hP hD hK hG hZ hS hA rfl hl.1 rfl (Nat.le_of_ble_eq_true rfl) dX6_putPart_188 ⟨Nat.le_of_ble_eq_true rfl, Nat.le_of_ble_eq_true rfl⟩ (fun I_211 F_212 H locs hq_210 hP hD hS => ?_)
                            try dsimp only at hq_210
                            obtain ⟨hB213, hf213, hp213⟩ := hq_210
                            refine lv_goto (tgt := 203) hx hb dX6_putPart_191 (by decide) ?_
                            refine lv_goto (tgt := 19) hx hb dX6_putPart_203 (by decide) ?_
                            exact ih19 (k + 2) I_211 F_212 ⟨hB213, ((hfJ.tr (hf176.mono (by decide) (by decide))).tr (hf213.mono (by decide) (by decide))), hp213, by omega⟩ (by omega) _ _ hP hD hS ls (lv_sub hl [1, 3, 4, 5] rfl)
                      · skip
                        refine lv_aload_n hx hb dX6_putPart_167 rfl (lv_at hl 3 rfl) ?_
                        refine lv_iload_n hx hb dX6_putPart_168 rfl (lv_at hl 5 rfl) ?_
                        have hac_214 : mfr [29, 31, 32, 33, 35, 42, 43] [20, 21, 22, 23, 24, 25, 26, 27, 28, 34, 41] I F J F_175 := (hfJ.tr (hf176.mono (by decide) (by decide)))
                        refine mk_callv (As := [.int (iz p1)]) (rest := []) ⟨hx, hb, hml, hown, hts⟩ (k_putSigns l dC dI mo ma cs J F_175 p1 H.size hB176 hp176.1 (fun e => by rw [(hac_214.2 5 (by decide))]; exact hn e) (by omega)) (cwV 1 hts (kx_gV kq_10_mprint_16 kq_10_mprint_17 kq_10_mprint_18 kq_04_msmall_6 kq_10_mprint_19 rfl) rfl rfl rfl (by decide +kernel) ⟨Nat.le_of_ble_eq_true rfl, Nat.le_of_ble_eq_true rfl⟩) hP hD hK hG hZ hS hA rfl hl.1 rfl (Nat.le_of_ble_eq_true rfl) dX6_putPart_169 ⟨Nat.le_of_ble_eq_true rfl, Nat.le_of_ble_eq_true rfl⟩ (fun I_217 F_218 H locs hq_216 hP hD hS => ?_)
                        try dsimp only at hq_216
                        obtain ⟨hB219, hf219, hd219⟩ := hq_216
                        have hp219 := mPS.put hp176 hf219 hd219
                        refine lv_goto (tgt := 203) hx hb dX6_putPart_172 (by decide) ?_
                        refine lv_goto (tgt := 19) hx hb dX6_putPart_203 (by decide) ?_
                        exact ih19 (k + 2) I_217 F_218 ⟨hB219, ((hfJ.tr (hf176.mono (by decide) (by decide))).tr (hf219.mono (by decide) (by decide))), hp219, by omega⟩ (by omega) _ _ hP hD hS ls (lv_sub hl [1, 3, 4, 5] rfl)
                  · skip
                    refine lv_aload_n hx hb dX6_putPart_109 rfl (lv_at hl 3 rfl) ?_
                    refine lv_iload hx hb dX6_putPart_110 (lv_at hl 2 rfl) ?_
                    refine lv_bipush (v := iz 110) hx hb dX6_putPart_112 (by decide) ?_
                    refine ki_icmp_ne (tgt := 122) hx hb dX6_putPart_114 (by decide) (by omega) (by omega) (by omega) (by omega) (fun c_220 => ?_) (fun c_220 => ?_)
                    · skip
                      refine lv_iload hx hb dX6_putPart_122 (lv_at hl 2 rfl) ?_
                      refine lv_bipush (v := iz 37) hx hb dX6_putPart_124 (by decide) ?_
                      refine ki_icmp_ne (tgt := 134) hx hb dX6_putPart_126 (by decide) (by omega) (by omega) (by omega) (by omega) (fun c_221 => ?_) (fun c_221 => ?_)
                      · skip
                        refine lv_iload hx hb dX6_putPart_134 (lv_at hl 0 rfl) ?_
                        refine lv_iconst (v := iz 2) hx hb dX6_putPart_136 (by decide) ?_
                        refine ki_icmp_ge (tgt := 148) hx hb dX6_putPart_137 (by decide) (by omega) (by omega) (by omega) (by omega) (fun c_222 => ?_) (fun c_222 => ?_)
                        · skip
                          refine lv_iload hx hb dX6_putPart_148 (lv_at hl 0 rfl) ?_
                          have hac_223 : mfr [29, 31, 32, 33, 35, 42, 43] [20, 21, 22, 23, 24, 25, 26, 27, 28, 34, 41] I F J F_175 := (hfJ.tr (hf176.mono (by decide) (by decide)))
                          refine mk_callv (As := [.int (iz z_172)]) (rest := []) ⟨hx, hb, hml, hown, hts⟩ (k_put l dC dI mo ma cs J F_175 z_172 H.size hB176 hp176.1) (cwV 1 hts (kx_gV kq_09_mput_12 kq_09_mput_13 kq_09_mput_14 kq_04_msmall_6 kq_09_mput_15 rfl) rfl rfl rfl (by decide +kernel) ⟨Nat.le_of_ble_eq_true rfl, Nat.le_of_ble_eq_true rfl⟩) hP hD hK hG hZ hS hA rfl hl.1 rfl (Nat.le_of_ble_eq_true rfl) dX6_putPart_150 ⟨Nat.le_of_ble_eq_true rfl, Nat.le_of_ble_eq_true rfl⟩ (fun I_226 F_227 H locs hq_225 hP hD hS => ?_)
                          try dsimp only at hq_225
                          obtain ⟨hB228, hf228, hd228⟩ := hq_225
                          have hp228 := mPS.put hp176 hf228 hd228
                          refine lv_goto (tgt := 203) hx hb dX6_putPart_153 (by decide) ?_
                          refine lv_goto (tgt := 19) hx hb dX6_putPart_203 (by decide) ?_
                          exact ih19 (k + 2) I_226 F_227 ⟨hB228, ((hfJ.tr (hf176.mono (by decide) (by decide))).tr (hf228.mono (by decide) (by decide))), hp228, by omega⟩ (by omega) _ _ hP hD hS ls (lv_sub hl [1, 3, 4, 5] rfl)
                        · skip
                          refine lv_bipush (v := iz 48) hx hb dX6_putPart_140 (by decide) ?_
                          refine lv_iload hx hb dX6_putPart_142 (lv_at hl 0 rfl) ?_
                          refine ki_iadd hx hb dX6_putPart_144 ?_
                          refine lv_goto (tgt := 150) hx hb dX6_putPart_145 (by decide) ?_
                          have hac_229 : mfr [29, 31, 32, 33, 35, 42, 43] [20, 21, 22, 23, 24, 25, 26, 27, 28, 34, 41] I F J F_175 := (hfJ.tr (hf176.mono (by decide) (by decide)))
                          refine mk_callv (As := [.int (iz (48 + z_172))]) (rest := []) ⟨hx, hb, hml, hown, hts⟩ (k_put l dC dI mo ma cs J F_175 (48 + z_172) H.size hB176 hp176.1) (cwV 1 hts (kx_gV kq_09_mput_12 kq_09_mput_13 kq_09_mput_14 kq_04_msmall_6 kq_09_mput_15 rfl) rfl rfl rfl (by decide +kernel) ⟨Nat.le_of_ble_eq_true rfl, Nat.le_of_ble_eq_true rfl⟩) hP hD hK hG hZ hS hA rfl hl.1 rfl (Nat.le_of_ble_eq_true rfl) dX6_putPart_150 ⟨Nat.le_of_ble_eq_true rfl, Nat.le_of_ble_eq_true rfl⟩ (fun I_232 F_233 H locs hq_231 hP hD hS => ?_)
                          try dsimp only at hq_231
                          obtain ⟨hB234, hf234, hd234⟩ := hq_231
                          have hp234 := mPS.put hp176 hf234 hd234
                          refine lv_goto (tgt := 203) hx hb dX6_putPart_153 (by decide) ?_
                          refine lv_goto (tgt := 19) hx hb dX6_putPart_203 (by decide) ?_
                          exact ih19 (k + 2) I_232 F_233 ⟨hB234, ((hfJ.tr (hf176.mono (by decide) (by decide))).tr (hf234.mono (by decide) (by decide))), hp234, by omega⟩ (by omega) _ _ hP hD hS ls (lv_sub hl [1, 3, 4, 5] rfl)
                      · omega
                    · omega
          · skip
            refine lv_aload_n hx hb dX6_putPart_44 rfl (lv_at hl 2 rfl) ?_
            refine lv_iload hx hb dX6_putPart_45 (lv_at hl 0 rfl) ?_
            have hac_235 : mfr [29, 31, 32, 33, 35, 42, 43] [20, 21, 22, 23, 24, 25, 26, 27, 28, 34, 41] I F J G := hfJ
            refine mk_callv (As := [.int (iz (G 36 k))]) (rest := []) ⟨hx, hb, hml, hown, hts⟩ (k_put l dC dI mo ma cs J G (G 36 k) H.size hBJ hpJ.1) (cwV 1 hts (kx_gV kq_09_mput_12 kq_09_mput_13 kq_09_mput_14 kq_04_msmall_6 kq_09_mput_15 rfl) rfl rfl rfl (by decide +kernel) ⟨Nat.le_of_ble_eq_true rfl, Nat.le_of_ble_eq_true rfl⟩) hP hD hK hG hZ hS hA rfl hl.1 rfl (Nat.le_of_ble_eq_true rfl) dX6_putPart_47 ⟨Nat.le_of_ble_eq_true rfl, Nat.le_of_ble_eq_true rfl⟩ (fun I_238 F_239 H locs hq_237 hP hD hS => ?_)
            try dsimp only at hq_237
            obtain ⟨hB240, hf240, hd240⟩ := hq_237
            have hp240 := mPS.put hpJ hf240 hd240
            refine lv_iinc (v := iz (k + 1)) (lv' := [(3, .int (iz (k + 1))), (4, .int (iz (G 36 k))), (0, .ref mo), (1, .int (iz pt)), (2, .int (iz p1))]) hx hb dX6_putPart_50 hl (k := 1) rfl (iz_add k 1) (by decide) rfl (fun ls hl => ?_)
            refine lv_goto (tgt := 203) hx hb dX6_putPart_53 (by decide) ?_
            refine lv_goto (tgt := 19) hx hb dX6_putPart_203 (by decide) ?_
            exact ih19 (k + 1) I_238 F_239 ⟨hB240, (hfJ.tr (hf240.mono (by decide) (by decide))), hp240, by omega⟩ (by omega) _ _ hP hD hS ls (lv_sub hl [0, 2, 3, 4] rfl)
    exact lp19 _ 0 I F ⟨hB, mfr.rf, hps, by omega⟩ (Nat.lt_succ_self _) _ _ hP hD hS ls (lv_sub hl [0, 1, 2, 3] rfl)
