/-! the reference: look -/
def mRw (n hi : Int) (F : Nat → Int → Int) : Prop := ∀ i, 0 ≤ i → i < n → 0 ≤ F 18 i ∧ F 18 i < hi
theorem mLv.fr {I J : Nat → Int} {F G : Nat → Int → Int} (h : mLv I F) (h1 : J 1 = I 1) (h2 : G 2 = F 2) (h3 : G 3 = F 3) : mLv J G := by
  intro e a b
  rw [h1] at b
  rw [h2, h3]
  exact h e a b
theorem mSm.fr {n : Int} {F G : Nat → Int → Int} (h : mSm n F) (h1 : G 17 = F 17) (h2 : G 2 = F 2) : mSm n G := by
  intro e a b
  rw [h1, h2]
  exact h e a b
theorem mSm.add {n : Int} {F G : Nat → Int → Int} (h : mSm n F) (h2 : G 2 = F 2) (ho : ∀ j, j ≠ n → G 17 j = F 17 j) (hv : 0 ≤ G 17 n ∧ G 17 n ≤ n ∧ G 2 (G 17 n) = G 2 n) : mSm (n + 1) G := by
  intro e a b
  by_cases he : e = n
  · rw [he]; exact hv
  · rw [ho e he, h2]
    exact h e a (by omega)
theorem mRw.fr {n hi : Int} {F G : Nat → Int → Int} (h : mRw n hi F) (h1 : G 18 = F 18) : mRw n hi G := by
  intro i a b
  rw [h1]
  exact h i a b
theorem mRw.up {n n2 hi hi2 : Int} {F G : Nat → Int → Int} {i0 v : Int} (h : ∀ i, 0 ≤ i → i < n2 → i ≠ i0 → 0 ≤ F 18 i ∧ F 18 i < hi) (hG : G 18 = upI (F 18) i0 v) (hv : 0 ≤ v ∧ v < hi2) (hh : hi ≤ hi2) : mRw n2 hi2 G := by
  intro i a b
  rw [hG]
  by_cases he : i = i0
  · rw [he, upI_self]; exact hv
  · rw [upI_ne _ _ he]
    have := h i a b he
    omega
theorem kq_07_mlook_0 : (Cond.fieldLink RX6 161 "IndexSortModel" "size" "I") ∈ lw_tbl := by decide +kernel
theorem kq_07_mlook_1 : (Cond.fieldLink RX6 57 "IndexSortModel" "rows" "[I") ∈ lw_tbl := by decide +kernel
theorem kq_07_mlook_2 : (Cond.methodLink RX6 168 yX6_isBefore) ∈ lw_tbl := by decide +kernel
theorem kq_07_mlook_3 : (Cond.instanceMethod yX6_isBefore) ∈ lw_tbl := by decide +kernel
theorem kq_07_mlook_4 : (Cond.selects RX6 yX6_isBefore yX6_isBefore) ∈ lw_tbl := by decide +kernel
theorem kq_07_mlook_5 : (Cond.code yX6_isBefore cX6_isBefore 7 (some .boolean)) ∈ lw_tbl := by decide +kernel
theorem kq_07_mlook_6 : (Cond.methodLink RX6 164 yX6_areAlike) ∈ lw_tbl := by decide +kernel
theorem kq_07_mlook_7 : (Cond.instanceMethod yX6_areAlike) ∈ lw_tbl := by decide +kernel
theorem kq_07_mlook_8 : (Cond.selects RX6 yX6_areAlike yX6_areAlike) ∈ lw_tbl := by decide +kernel
theorem kq_07_mlook_9 : (Cond.code yX6_areAlike cX6_areAlike 5 (some .boolean)) ∈ lw_tbl := by decide +kernel
set_option maxHeartbeats 4000000 in
set_option maxRecDepth 100000 in
/-- look: behind it the rows are known -/
theorem k_look (l : Launch) (dC : Nat → ClassId) (dI : Nat → Nat → Nat) (mo : Nat) (ma : Nat → Nat) (cs : Nat → ClassId) (I : Nat → Int) (F : Nat → Int → Int) (sz : Nat) (hB : mB I F) (hc : 0 ≤ I 1 ∧ I 1 ≤ 64) (hn : ∀ e, 0 ≤ F 5 e ∧ F 5 e ≤ 20) (hlv : mLv I F) (hkn : I 16 = 1 → mSm (I 1) F ∧ (0 ≤ I 19 ∧ I 19 ≤ I 1) ∧ mRw (I 19) (I 1) F) (hk01 : I 16 = 0 ∨ I 16 = 1) : mMv l yX6_look (.code yX6_look cX6_look 3 none) 4 98 dC dI mo ma cs I F [.ref mo] sz (fun (I' : Nat → Int) (F' : Nat → Int → Int) => mB I' F' ∧ mfr [16, 19] [17, 18, 20, 21, 22, 23, 24] I F I' F' ∧ I' 16 = 1 ∧ mSm (I 1) F' ∧ (0 ≤ I' 19 ∧ I' 19 ≤ I 1) ∧ mRw (I' 19) (I 1) F') := by
  refine Met.ofW (cc := cX6_look) (maxL := 3) (ret := none) (by decide) rfl ?_
  intro p e s m args below meth c s₁ B hml hv
  obtain ⟨rfl, hsz, hP, hK, hD0, hG, hZ⟩ := hv
  have hx := B.exec
  have hb := B.bytes
  have hr := B.returns
  have hts := kx_hts (a := ([.ref mo] : List Value).toArray) hG
  have hown : s.vm.findClass RX6 = some m.cls := findClass_of_methodNamed B.named
  have hlocks := B.notSynchronized
  subst hsz
  have hD := hD0.self (sz := s.heap.size)
  generalize hAe : va_A (mW mo ma cs I F) s.heap.size = A at hD hZ ⊢
  have hA : ∀ q : Nat, s.heap.size ≤ q → A q := fun q h => by rw [← hAe]; exact Or.inr h
  have hS : va_S A s.heap s.heap [] := va_S.rf
  have hl := lv_entry ([.ref mo]) (n := 3) (Nat.le_of_ble_eq_true rfl)
  rw [lg_entry_eq]
  generalize (lg_sl ([.ref mo]) ++ List.replicate (3 - (lg_sl ([.ref mo])).length) Slot.unset).toArray = ls at hl ⊢
  have hl : lv_has ls 3 [(0, .ref mo)] := hl
  generalize hQe : MQ below (mQv dC dI mo ma cs A (fun (I' : Nat → Int) (F' : Nat → Int → Int) => mB I' F' ∧ mfr [16, 19] [17, 18, 20, 21, 22, 23, 24] I F I' F' ∧ I' 16 = 1 ∧ mSm (I 1) F' ∧ (0 ≤ I' 19 ∧ I' 19 ≤ I 1) ∧ mRw (I' 19) (I 1) F')) ([.ref mo] : List Value).toArray s 0 0 A = QQ
  refine lv_aload_n hx hb dX6_look_0 rfl (lv_at hl 0 rfl) ?_
  refine va_get (D := (dC, dI)) (ci := 6) (v := .int (iz (I 16))) (C := RX6) (T := TX6) (N := 44) hx hb hts kt_X6 hown hK hP 0 rfl rfl 16 (by decide) (kx_word hG kq_04_msmall_14 rfl) (fun _ h9 => h9) rfl dX6_look_1 ?_
  have hbd_1 := hB.1 16
  refine ki_if_eq (tgt := 8) hx hb dX6_look_4 (by decide) (by omega) (by omega) (fun c_2 => ?_) (fun c_2 => ?_)
  · skip
    refine lv_aload_n hx hb dX6_look_8 rfl (lv_at hl 0 rfl) ?_
    refine lv_iconst (v := iz 1) hx hb dX6_look_9 (by decide) ?_
    refine va_put (D := (dC, dI)) (ci := 6) (v := .int (iz 1)) (ty := .boolean) (C := RX6) (T := TX6) (N := 44) hx hb hts kt_X6 tyX6 tyX6_ok nmX6 hown hK hP hD hS 0 rfl rfl 16 (by decide) (kx_word hG kq_04_msmall_14 rfl) (fun _ h9 => h9) rfl (by decide +kernel) (mz_bool (Or.inr rfl)).1 (mz_bool (Or.inr rfl)).2 (Nat.le_of_ble_eq_true rfl) dX6_look_10 (fun H locs hP hD hS => ?_)
    have hP : va_P (dC, dI) kxCl (mW mo ma cs (va_up I 16 1) F) H := hP
    have hD : va_D A (mW mo ma cs (va_up I 16 1) F) := hD
    refine lv_aload_n hx hb dX6_look_13 rfl (lv_at hl 0 rfl) ?_
    refine lv_iconst (v := iz 0) hx hb dX6_look_14 (by decide) ?_
    refine va_put (D := (dC, dI)) (ci := 6) (v := .int (iz 0)) (ty := .int) (C := RX6) (T := TX6) (N := 44) hx hb hts kt_X6 tyX6 tyX6_ok nmX6 hown hK hP hD hS 0 rfl rfl 19 (by decide) (kx_word hG kq_07_mlook_0 rfl) (fun _ h9 => h9) rfl (by decide +kernel) rfl rfl (Nat.le_of_ble_eq_true rfl) dX6_look_15 (fun H locs hP hD hS => ?_)
    have hP : va_P (dC, dI) kxCl (mW mo ma cs (va_up (va_up I 16 1) 19 0) F) H := hP
    have hD : va_D A (mW mo ma cs (va_up (va_up I 16 1) 19 0) F) := hD
    refine lv_iconst (v := iz 0) hx hb dX6_look_18 (by decide) ?_
    refine lv_istore_n (lv' := [(1, .int (iz 0)), (0, .ref mo)]) hx hb dX6_look_19 rfl hl (by decide) rfl (fun ls hl => ?_)
    have lp20 : ∀ (n : Nat) (ev : Int) (J : Nat → Int) (G : Nat → Int → Int), ((mB J G) ∧ (mfr [16, 19] [17, 18, 20, 21, 22, 23, 24] I F J G) ∧ (J 16 = 1) ∧ (0 ≤ ev ∧ ev ≤ I 1) ∧ (mSm ev G) ∧ (0 ≤ J 19 ∧ J 19 ≤ ev) ∧ (mRw (J 19) ev G)) → (I 1 - ev).toNat < n → ∀ (H : Heap) (locs : List Loc), va_P (dC, dI) kxCl (mW mo ma cs J G) H → va_D A (mW mo ma cs J G) → va_S A s.heap H locs → ∀ ls : Array Slot, lv_has ls 3 [(1, .int (iz ev)), (0, .ref mo)] → W p l e (headSpec [.code yX6_look cX6_look 3 none] ({ frames := 4, cells := 0, slots := 0, locals := 98 })).room s m ([.ref mo] : List Value).toArray below meth c H locs 0 0 QQ (F0 m 20 ls []) := by
      intro n
      induction n with
      | zero => intro ev J G hinv hm; exact absurd hm (Nat.not_lt_zero _)
      | succ n ih20 =>
        intro ev J G hinv hm H locs hP hD hS ls hl
        obtain ⟨hBJ, hfJ, hk16, hev, hsm, hsz, hrw⟩ := hinv
        have e1 := hfJ.1 1 (by decide)
        have f2 := hfJ.2 2 (by decide)
        have f3 := hfJ.2 3 (by decide)
        have f5 := hfJ.2 5 (by decide)
        refine lv_iload_n hx hb dX6_look_20 rfl (lv_at hl 0 rfl) ?_
        refine lv_aload_n hx hb dX6_look_21 rfl (lv_at hl 1 rfl) ?_
        refine va_get (D := (dC, dI)) (ci := 6) (v := .int (iz (J 1))) (C := RX6) (T := TX6) (N := 44) hx hb hts kt_X6 hown hK hP 0 rfl rfl 1 (by decide) (kx_word hG kq_04_msmall_1 rfl) (fun _ h9 => h9) rfl dX6_look_22 ?_
        have hbd_3 := hBJ.1 1
        refine ki_icmp_ge (tgt := 162) hx hb dX6_look_25 (by decide) (by omega) (by omega) (by omega) (by omega) (fun c_4 => ?_) (fun c_4 => ?_)
        · skip
          rw [← hQe]
          exact mk_ret hx hb hr hlocks hP hD hK hS dX6_look_162 (⟨hBJ, hfJ, hk16, (show ev = I 1 by omega) ▸ hsm, by omega, (show ev = I 1 by omega) ▸ hrw⟩)
        · skip
          refine lv_aload_n hx hb dX6_look_28 rfl (lv_at hl 1 rfl) ?_
          refine va_get (D := (dC, dI)) (ci := 6) (v := .ref (ma 17)) (C := RX6) (T := TX6) (N := 44) hx hb hts kt_X6 hown hK hP 0 rfl rfl 17 (by decide) (kx_word hG kq_06_mway_15 rfl) (fun _ h9 => h9) rfl dX6_look_29 ?_
          refine lv_iload_n hx hb dX6_look_32 rfl (lv_at hl 0 rfl) ?_
          refine lv_iload_n hx hb dX6_look_33 rfl (lv_at hl 0 rfl) ?_
          refine ki_iast (F := G 17) hx hb hK hP hD hS 13 12 rfl rfl (by omega) (by omega) (by decide) dX6_look_34 (fun H locs hP hD hS => ?_)
          have hP : va_P (dC, dI) kxCl (mW mo ma cs J (va_up G 17 (upI (G 17) ev ev))) H := hP
          have hD : va_D A (mW mo ma cs J (va_up G 17 (upI (G 17) ev ev))) := hD
          refine lv_iload_n hx hb dX6_look_35 rfl (lv_at hl 0 rfl) ?_
          refine lv_iconst (v := iz 1) hx hb dX6_look_36 (by decide) ?_
          refine ki_isub hx hb dX6_look_37 ?_
          refine lv_istore_n (lv' := [(2, .int (iz (ev - 1))), (1, .int (iz ev)), (0, .ref mo)]) hx hb dX6_look_38 rfl hl (by decide) rfl (fun ls hl => ?_)
          have lp39 : ∀ (n : Nat) (k : Int) (G1 : Nat → Int → Int), ((mB J G1) ∧ (mfr [] [17] J G J G1) ∧ (∀ j, j ≠ ev → G1 17 j = G 17 j) ∧ (0 ≤ G1 17 ev ∧ G1 17 ev ≤ ev ∧ G1 2 (G1 17 ev) = G1 2 ev) ∧ (-1 ≤ k ∧ k < ev)) → (k + 1).toNat < n → ∀ (H : Heap) (locs : List Loc), va_P (dC, dI) kxCl (mW mo ma cs J G1) H → va_D A (mW mo ma cs J G1) → va_S A s.heap H locs → ∀ ls : Array Slot, lv_has ls 3 [(2, .int (iz k)), (1, .int (iz ev)), (0, .ref mo)] → W p l e (headSpec [.code yX6_look cX6_look 3 none] ({ frames := 4, cells := 0, slots := 0, locals := 98 })).room s m ([.ref mo] : List Value).toArray below meth c H locs 0 0 QQ (F0 m 39 ls []) := by
            intro n
            induction n with
            | zero => intro k G1 hinv hm; exact absurd hm (Nat.not_lt_zero _)
            | succ n ih39 =>
              intro k G1 hinv hm H locs hP hD hS ls hl
              obtain ⟨hB1, hf1, ho1, hv1, hk⟩ := hinv
              have a2 := congrFun (hf1.2 2 (by decide)) ev
              have a3 := congrFun (hf1.2 3 (by decide)) ev
              have b2 := congrFun f2 ev
              have b3 := congrFun f3 ev
              have a2k := congrFun (hf1.2 2 (by decide)) k
              have a3k := congrFun (hf1.2 3 (by decide)) k
              have b2k := congrFun f2 k
              have b3k := congrFun f3 k
              have hlve := hlv ev (by omega) (by omega)
              refine lv_iload_n hx hb dX6_look_39 rfl (lv_at hl 0 rfl) ?_
              refine ki_if_lt (tgt := 84) hx hb dX6_look_40 (by decide) (by omega) (by omega) (fun c_5 => ?_) (fun c_5 => ?_)
              · skip
                refine lv_aload_n hx hb dX6_look_84 rfl (lv_at hl 2 rfl) ?_
                refine va_get (D := (dC, dI)) (ci := 6) (v := .ref (ma 17)) (C := RX6) (T := TX6) (N := 44) hx hb hts kt_X6 hown hK hP 0 rfl rfl 17 (by decide) (kx_word hG kq_06_mway_15 rfl) (fun _ h9 => h9) rfl dX6_look_85 ?_
                refine lv_iload_n hx hb dX6_look_88 rfl (lv_at hl 1 rfl) ?_
                refine ki_iald (F := G1 17) hx hb hK hP 13 12 rfl rfl (by omega) (by omega) (by decide) dX6_look_89 ?_
                have hbd_6 := hB1.2 17 ev
                refine lv_iload_n hx hb dX6_look_90 rfl (lv_at hl 1 rfl) ?_
                refine ki_icmp_ne (tgt := 156) hx hb dX6_look_91 (by decide) (by omega) (by omega) (by omega) (by omega) (fun c_7 => ?_) (fun c_7 => ?_)
                · skip
                  refine lv_iinc (v := iz (ev + 1)) (lv' := [(1, .int (iz (ev + 1))), (2, .int (iz k)), (0, .ref mo)]) hx hb dX6_look_156 hl (k := 1) rfl (iz_add ev 1) (by decide) rfl (fun ls hl => ?_)
                  refine lv_goto (tgt := 20) hx hb dX6_look_159 (by decide) ?_
                  exact ih20 (ev + 1) J G1 ⟨hB1, hfJ.tr (hf1.mono (by decide) (by decide)), hk16, by omega, mSm.add hsm (hf1.2 2 (by decide)) ho1 hv1, by omega, fun i a b => by have h9 := hrw i a b; rw [hf1.2 18 (by decide)]; omega⟩ (by omega) _ _ hP hD hS ls (lv_sub hl [0, 2] rfl)
                · skip
                  refine lv_aload_n hx hb dX6_look_94 rfl (lv_at hl 2 rfl) ?_
                  refine va_get (D := (dC, dI)) (ci := 6) (v := .int (iz (J 19))) (C := RX6) (T := TX6) (N := 44) hx hb hts kt_X6 hown hK hP 0 rfl rfl 19 (by decide) (kx_word hG kq_07_mlook_0 rfl) (fun _ h9 => h9) rfl dX6_look_95 ?_
                  have hbd_8 := hB1.1 19
                  refine lv_istore_n (lv' := [(2, .int (iz (J 19))), (1, .int (iz ev)), (0, .ref mo)]) hx hb dX6_look_98 rfl hl (by decide) rfl (fun ls hl => ?_)
                  have lp99 : ∀ (n : Nat) (ap : Int) (G2 : Nat → Int → Int), ((mB J G2) ∧ (mfr [] [18, 20, 21, 22, 23, 24] J G1 J G2) ∧ (0 ≤ ap ∧ ap ≤ J 19) ∧ (∀ i, 0 ≤ i → i < J 19 → 0 ≤ G2 18 i ∧ G2 18 i < ev) ∧ (ap < J 19 → 0 ≤ G2 18 (J 19) ∧ G2 18 (J 19) < ev)) → (ap).toNat < n → ∀ (H : Heap) (locs : List Loc), va_P (dC, dI) kxCl (mW mo ma cs J G2) H → va_D A (mW mo ma cs J G2) → va_S A s.heap H locs → ∀ ls : Array Slot, lv_has ls 3 [(2, .int (iz ap)), (1, .int (iz ev)), (0, .ref mo)] → W p l e (headSpec [.code yX6_look cX6_look 3 none] ({ frames := 4, cells := 0, slots := 0, locals := 98 })).room s m ([.ref mo] : List Value).toArray below meth c H locs 0 0 QQ (F0 m 99 ls []) := by
                    intro n
                    induction n with
                    | zero => intro ap G2 hinv hm; exact absurd hm (Nat.not_lt_zero _)
                    | succ n ih99 =>
                      intro ap G2 hinv hm H locs hP hD hS ls hl
                      obtain ⟨hB2, hf2, hap, hr2, hr3⟩ := hinv
                      refine lv_iload_n hx hb dX6_look_99 rfl (lv_at hl 0 rfl) ?_
                      refine ki_if_le (tgt := 139) hx hb dX6_look_100 (by decide) (by omega) (by omega) (fun c_9 => ?_) (fun c_9 => ?_)
                      · skip
                        refine lv_aload_n hx hb dX6_look_139 rfl (lv_at hl 2 rfl) ?_
                        refine va_get (D := (dC, dI)) (ci := 6) (v := .ref (ma 18)) (C := RX6) (T := TX6) (N := 44) hx hb hts kt_X6 hown hK hP 0 rfl rfl 18 (by decide) (kx_word hG kq_07_mlook_1 rfl) (fun _ h9 => h9) rfl dX6_look_140 ?_
                        refine lv_iload_n hx hb dX6_look_143 rfl (lv_at hl 0 rfl) ?_
                        refine lv_iload_n hx hb dX6_look_144 rfl (lv_at hl 1 rfl) ?_
                        refine ki_iast (F := G2 18) hx hb hK hP hD hS 14 13 rfl rfl (by omega) (by omega) (by decide) dX6_look_145 (fun H locs hP hD hS => ?_)
                        have hP : va_P (dC, dI) kxCl (mW mo ma cs J (va_up G2 18 (upI (G2 18) ap ev))) H := hP
                        have hD : va_D A (mW mo ma cs J (va_up G2 18 (upI (G2 18) ap ev))) := hD
                        refine lv_aload_n hx hb dX6_look_146 rfl (lv_at hl 2 rfl) ?_
                        refine lv_dup hx hb dX6_look_147 rfl ?_
                        refine va_get (D := (dC, dI)) (ci := 6) (v := .int (iz (J 19))) (C := RX6) (T := TX6) (N := 44) hx hb hts kt_X6 hown hK hP 0 rfl rfl 19 (by decide) (kx_word hG kq_07_mlook_0 rfl) (fun _ h9 => h9) rfl dX6_look_148 ?_
                        have hbd_10 := hB2.1 19
                        refine lv_iconst (v := iz 1) hx hb dX6_look_151 (by decide) ?_
                        refine ki_iadd hx hb dX6_look_152 ?_
                        refine va_put (D := (dC, dI)) (ci := 6) (v := .int (iz ((J 19) + 1))) (ty := .int) (C := RX6) (T := TX6) (N := 44) hx hb hts kt_X6 tyX6 tyX6_ok nmX6 hown hK hP hD hS 0 rfl rfl 19 (by decide) (kx_word hG kq_07_mlook_0 rfl) (fun _ h9 => h9) rfl (by decide +kernel) rfl rfl (Nat.le_of_ble_eq_true rfl) dX6_look_153 (fun H locs hP hD hS => ?_)
                        have hP : va_P (dC, dI) kxCl (mW mo ma cs (va_up J 19 ((J 19) + 1)) (va_up G2 18 (upI (G2 18) ap ev))) H := hP
                        have hD : va_D A (mW mo ma cs (va_up J 19 ((J 19) + 1)) (va_up G2 18 (upI (G2 18) ap ev))) := hD
                        refine lv_iinc (v := iz (ev + 1)) (lv' := [(1, .int (iz (ev + 1))), (2, .int (iz ap)), (0, .ref mo)]) hx hb dX6_look_156 hl (k := 1) rfl (iz_add ev 1) (by decide) rfl (fun ls hl => ?_)
                        refine lv_goto (tgt := 20) hx hb dX6_look_159 (by decide) ?_
                        exact ih20 (ev + 1) (va_up J 19 ((J 19) + 1)) (va_up G2 18 (upI (G2 18) ap ev)) ⟨(mB_f (mB_i hB2 19 (by omega) (by omega)) 18 ap (by omega) (by omega)), mfr.upI (k := 19) (hfJ.tr ((hf1.mono (by decide) (by decide)).tr ((mfr.upF hf2 (k := 18) (by decide) _).mono (by decide) (by decide)))) (by decide) _, hk16, by omega, mSm.fr (mSm.add hsm (hf1.2 2 (by decide)) ho1 hv1) (show (va_up G2 18 (upI (G2 18) ap ev)) 17 = G1 17 from hf2.2 17 (by decide)) (show (va_up G2 18 (upI (G2 18) ap ev)) 2 = G1 2 from hf2.2 2 (by decide)), by have e9 : (va_up J 19 ((J 19) + 1)) 19 = J 19 + 1 := va_up_self _ _ _; omega, by have e9 : (va_up J 19 ((J 19) + 1)) 19 = J 19 + 1 := va_up_self _ _ _; rw [e9]; exact mRw.up (n := 0) (hi := ev) (i0 := ap) (v := ev) (F := G2) (fun i a b c9 => if h9 : i < J 19 then hr2 i a h9 else (by rw [show i = J 19 by omega]; exact hr3 (by omega))) rfl (by omega) (by omega)⟩ (by omega) _ _ hP hD hS ls (lv_sub hl [0, 2] rfl)
                      · skip
                        refine lv_aload_n hx hb dX6_look_103 rfl (lv_at hl 2 rfl) ?_
                        refine lv_iload_n hx hb dX6_look_104 rfl (lv_at hl 1 rfl) ?_
                        refine lv_aload_n hx hb dX6_look_105 rfl (lv_at hl 2 rfl) ?_
                        refine va_get (D := (dC, dI)) (ci := 6) (v := .ref (ma 18)) (C := RX6) (T := TX6) (N := 44) hx hb hts kt_X6 hown hK hP 0 rfl rfl 18 (by decide) (kx_word hG kq_07_mlook_1 rfl) (fun _ h9 => h9) rfl dX6_look_106 ?_
                        refine lv_iload_n hx hb dX6_look_109 rfl (lv_at hl 0 rfl) ?_
                        refine lv_iconst (v := iz 1) hx hb dX6_look_110 (by decide) ?_
                        refine ki_isub hx hb dX6_look_111 ?_
                        refine ki_iald (F := G2 18) hx hb hK hP 14 13 rfl rfl (by omega) (by omega) (by decide) dX6_look_112 ?_
                        have hbd_11 := hB2.2 18 (ap - 1)
                        refine mk_calli (As := [.int (iz ev), .int (iz (G2 18 (ap - 1)))]) (rest := []) ⟨hx, hb, hml, hown, hts⟩ (k_isBefore l dC dI mo ma cs J G2 ev (G2 18 (ap - 1)) ev H.size hB2 (by omega) (fun e => by rw [hf2.2 5 (by decide), hf1.2 5 (by decide), f5]; exact hn e) (hlv.fr e1 ((hf2.2 2 (by decide)).trans ((hf1.2 2 (by decide)).trans f2)) ((hf2.2 3 (by decide)).trans ((hf1.2 3 (by decide)).trans f3))) (mSm.fr (F := G1) (fun e a b => by rw [ho1 e (by omega), hf1.2 2 (by decide)]; exact hsm e a b) (hf2.2 17 (by decide)) (hf2.2 2 (by decide))) (by omega) (by have h9 := hr2 (ap - 1) (by omega) (by omega); omega)) (cwV 2 hts (kx_gV kq_07_mlook_2 kq_07_mlook_3 kq_07_mlook_4 kq_04_msmall_6 kq_07_mlook_5 rfl) rfl rfl rfl (by decide +kernel) ⟨Nat.le_of_ble_eq_true rfl, Nat.le_of_ble_eq_true rfl⟩) hP hD hK hG hZ hS hA rfl hl.1 rfl (Nat.le_of_ble_eq_true rfl) dX6_look_113 ⟨Nat.le_of_ble_eq_true rfl, Nat.le_of_ble_eq_true rfl⟩ (fun z_12 I_14 F_15 H locs hq_13 hP hD hS => ?_)
                        try dsimp only at hq_13
                        obtain ⟨rfl, hB16, hf16, hr16⟩ := hq_13
                        refine ki_if_eq (tgt := 139) hx hb dX6_look_116 (by decide) (by omega) (by omega) (fun c_17 => ?_) (fun c_17 => ?_)
                        · skip
                          refine lv_aload_n hx hb dX6_look_139 rfl (lv_at hl 2 rfl) ?_
                          refine va_get (D := (dC, dI)) (ci := 6) (v := .ref (ma 18)) (C := RX6) (T := TX6) (N := 44) hx hb hts kt_X6 hown hK hP 0 rfl rfl 18 (by decide) (kx_word hG kq_07_mlook_1 rfl) (fun _ h9 => h9) rfl dX6_look_140 ?_
                          refine lv_iload_n hx hb dX6_look_143 rfl (lv_at hl 0 rfl) ?_
                          refine lv_iload_n hx hb dX6_look_144 rfl (lv_at hl 1 rfl) ?_
                          refine ki_iast (F := F_15 18) hx hb hK hP hD hS 14 13 rfl rfl (by omega) (by omega) (by decide) dX6_look_145 (fun H locs hP hD hS => ?_)
                          have hP : va_P (dC, dI) kxCl (mW mo ma cs J (va_up F_15 18 (upI (F_15 18) ap ev))) H := hP
                          have hD : va_D A (mW mo ma cs J (va_up F_15 18 (upI (F_15 18) ap ev))) := hD
                          refine lv_aload_n hx hb dX6_look_146 rfl (lv_at hl 2 rfl) ?_
                          refine lv_dup hx hb dX6_look_147 rfl ?_
                          refine va_get (D := (dC, dI)) (ci := 6) (v := .int (iz (J 19))) (C := RX6) (T := TX6) (N := 44) hx hb hts kt_X6 hown hK hP 0 rfl rfl 19 (by decide) (kx_word hG kq_07_mlook_0 rfl) (fun _ h9 => h9) rfl dX6_look_148 ?_
                          have hbd_18 := hB16.1 19
                          refine lv_iconst (v := iz 1) hx hb dX6_look_151 (by decide) ?_
                          refine ki_iadd hx hb dX6_look_152 ?_
                          refine va_put (D := (dC, dI)) (ci := 6) (v := .int (iz ((J 19) + 1))) (ty := .int) (C := RX6) (T := TX6) (N := 44) hx hb hts kt_X6 tyX6 tyX6_ok nmX6 hown hK hP hD hS 0 rfl rfl 19 (by decide) (kx_word hG kq_07_mlook_0 rfl) (fun _ h9 => h9) rfl (by decide +kernel) rfl rfl (Nat.le_of_ble_eq_true rfl) dX6_look_153 (fun H locs hP hD hS => ?_)
                          have hP : va_P (dC, dI) kxCl (mW mo ma cs (va_up J 19 ((J 19) + 1)) (va_up F_15 18 (upI (F_15 18) ap ev))) H := hP
                          have hD : va_D A (mW mo ma cs (va_up J 19 ((J 19) + 1)) (va_up F_15 18 (upI (F_15 18) ap ev))) := hD
                          refine lv_iinc (v := iz (ev + 1)) (lv' := [(1, .int (iz (ev + 1))), (2, .int (iz ap)), (0, .ref mo)]) hx hb dX6_look_156 hl (k := 1) rfl (iz_add ev 1) (by decide) rfl (fun ls hl => ?_)
                          refine lv_goto (tgt := 20) hx hb dX6_look_159 (by decide) ?_
                          exact ih20 (ev + 1) (va_up J 19 ((J 19) + 1)) (va_up F_15 18 (upI (F_15 18) ap ev)) ⟨(mB_f (mB_i hB16 19 (by omega) (by omega)) 18 ap (by omega) (by omega)), mfr.upI (k := 19) (hfJ.tr ((hf1.mono (by decide) (by decide)).tr ((mfr.upF (hf2.tr (hf16.mono (by decide) (by decide))) (k := 18) (by decide) _).mono (by decide) (by decide)))) (by decide) _, hk16, by omega, mSm.fr (mSm.add hsm (hf1.2 2 (by decide)) ho1 hv1) (show (va_up F_15 18 (upI (F_15 18) ap ev)) 17 = G1 17 from (hf2.tr (hf16.mono (by decide) (by decide))).2 17 (by decide)) (show (va_up F_15 18 (upI (F_15 18) ap ev)) 2 = G1 2 from (hf2.tr (hf16.mono (by decide) (by decide))).2 2 (by decide)), by have e9 : (va_up J 19 ((J 19) + 1)) 19 = J 19 + 1 := va_up_self _ _ _; omega, by have e9 : (va_up J 19 ((J 19) + 1)) 19 = J 19 + 1 := va_up_self _ _ _; rw [e9]; exact mRw.up (n := 0) (hi := ev) (i0 := ap) (v := ev) (F := F_15) (fun i a b c9 => if h9 : i < J 19 then (by rw [congrFun (hf16.2 18 (by decide)) _]; exact hr2 i a h9) else (by rw [show i = J 19 by omega]; exact (by rw [congrFun (hf16.2 18 (by decide)) _]; exact hr3 (by omega)))) rfl (by omega) (by omega)⟩ (by omega) _ _ hP hD hS ls (lv_sub hl [0, 2] rfl)
                        · skip
                          refine lv_aload_n hx hb dX6_look_119 rfl (lv_at hl 2 rfl) ?_
                          refine va_get (D := (dC, dI)) (ci := 6) (v := .ref (ma 18)) (C := RX6) (T := TX6) (N := 44) hx hb hts kt_X6 hown hK hP 0 rfl rfl 18 (by decide) (kx_word hG kq_07_mlook_1 rfl) (fun _ h9 => h9) rfl dX6_look_120 ?_
                          refine lv_iload_n hx hb dX6_look_123 rfl (lv_at hl 0 rfl) ?_
                          refine lv_aload_n hx hb dX6_look_124 rfl (lv_at hl 2 rfl) ?_
                          refine va_get (D := (dC, dI)) (ci := 6) (v := .ref (ma 18)) (C := RX6) (T := TX6) (N := 44) hx hb hts kt_X6 hown hK hP 0 rfl rfl 18 (by decide) (kx_word hG kq_07_mlook_1 rfl) (fun _ h9 => h9) rfl dX6_look_125 ?_
                          refine lv_iload_n hx hb dX6_look_128 rfl (lv_at hl 0 rfl) ?_
                          refine lv_iconst (v := iz 1) hx hb dX6_look_129 (by decide) ?_
                          refine ki_isub hx hb dX6_look_130 ?_
                          refine ki_iald (F := F_15 18) hx hb hK hP 14 13 rfl rfl (by omega) (by omega) (by decide) dX6_look_131 ?_
                          have hbd_19 := hB16.2 18 (ap - 1)
                          refine ki_iast (F := F_15 18) hx hb hK hP hD hS 14 13 rfl rfl (by omega) (by omega) (by decide) dX6_look_132 (fun H locs hP hD hS => ?_)
                          have hP : va_P (dC, dI) kxCl (mW mo ma cs J (va_up F_15 18 (upI (F_15 18) ap (F_15 18 (ap - 1))))) H := hP
                          have hD : va_D A (mW mo ma cs J (va_up F_15 18 (upI (F_15 18) ap (F_15 18 (ap - 1))))) := hD
                          refine lv_iinc (v := iz (ap + (-1))) (lv' := [(2, .int (iz (ap + (-1)))), (1, .int (iz ev)), (0, .ref mo)]) hx hb dX6_look_133 hl (k := 0) rfl (iz_add ap (-1)) (by decide) rfl (fun ls hl => ?_)
                          refine lv_goto (tgt := 99) hx hb dX6_look_136 (by decide) ?_
                          exact ih99 (ap + (-1)) (va_up F_15 18 (upI (F_15 18) ap (F_15 18 (ap - 1)))) ⟨(mB_f hB16 18 ap (by omega) (by omega)), mfr.upF (hf2.tr (hf16.mono (by decide) (by decide))) (by decide) _, by omega, fun i a b => if h9 : i = ap then (by rw [h9]; exact (by rw [show (va_up F_15 18 (upI (F_15 18) ap (F_15 18 (ap - 1)))) 18 ap = F_15 18 (ap - 1) from upI_self _ _ _, congrFun (hf16.2 18 (by decide)) (ap - 1)]; exact hr2 (ap - 1) (by omega) (by omega))) else (by rw [show (va_up F_15 18 (upI (F_15 18) ap (F_15 18 (ap - 1)))) 18 i = F_15 18 i from upI_ne _ _ h9, congrFun (hf16.2 18 (by decide)) i]; exact hr2 i a b), fun h => if h9 : J 19 = ap then (by rw [h9]; exact (by rw [show (va_up F_15 18 (upI (F_15 18) ap (F_15 18 (ap - 1)))) 18 ap = F_15 18 (ap - 1) from upI_self _ _ _, congrFun (hf16.2 18 (by decide)) (ap - 1)]; exact hr2 (ap - 1) (by omega) (by omega))) else (by rw [show (va_up F_15 18 (upI (F_15 18) ap (F_15 18 (ap - 1)))) 18 (J 19) = F_15 18 (J 19) from upI_ne _ _ h9, congrFun (hf16.2 18 (by decide)) (J 19)]; exact hr3 (by omega))⟩ (by omega) _ _ hP hD hS ls (lv_sub hl [0, 1, 2] rfl)
                  exact lp99 _ (J 19) G1 ⟨hB1, mfr.rf, by omega, fun i a b => by rw [hf1.2 18 (by decide)]; exact hrw i a b, fun h => absurd h (by omega)⟩ (Nat.lt_succ_self _) _ _ hP hD hS ls (lv_sub hl [0, 1, 2] rfl)
              · skip
                have hlvk := hlv k (by omega) (by omega)
                refine lv_aload_n hx hb dX6_look_43 rfl (lv_at hl 2 rfl) ?_
                refine va_get (D := (dC, dI)) (ci := 6) (v := .ref (ma 17)) (C := RX6) (T := TX6) (N := 44) hx hb hts kt_X6 hown hK hP 0 rfl rfl 17 (by decide) (kx_word hG kq_06_mway_15 rfl) (fun _ h9 => h9) rfl dX6_look_44 ?_
                refine lv_iload_n hx hb dX6_look_47 rfl (lv_at hl 1 rfl) ?_
                refine lv_aload_n hx hb dX6_look_48 rfl (lv_at hl 2 rfl) ?_
                refine va_get (D := (dC, dI)) (ci := 6) (v := .ref (ma 17)) (C := RX6) (T := TX6) (N := 44) hx hb hts kt_X6 hown hK hP 0 rfl rfl 17 (by decide) (kx_word hG kq_06_mway_15 rfl) (fun _ h9 => h9) rfl dX6_look_49 ?_
                refine lv_iload_n hx hb dX6_look_52 rfl (lv_at hl 0 rfl) ?_
                refine ki_iald (F := G1 17) hx hb hK hP 13 12 rfl rfl (by omega) (by omega) (by decide) dX6_look_53 ?_
                have hbd_20 := hB1.2 17 k
                refine lv_iload_n hx hb dX6_look_54 rfl (lv_at hl 0 rfl) ?_
                refine ki_icmp_ne (tgt := 71) hx hb dX6_look_55 (by decide) (by omega) (by omega) (by omega) (by omega) (fun c_21 => ?_) (fun c_21 => ?_)
                · skip
                  refine lv_aload_n hx hb dX6_look_71 rfl (lv_at hl 2 rfl) ?_
                  refine va_get (D := (dC, dI)) (ci := 6) (v := .ref (ma 17)) (C := RX6) (T := TX6) (N := 44) hx hb hts kt_X6 hown hK hP 0 rfl rfl 17 (by decide) (kx_word hG kq_06_mway_15 rfl) (fun _ h9 => h9) rfl dX6_look_72 ?_
                  refine lv_iload_n hx hb dX6_look_75 rfl (lv_at hl 1 rfl) ?_
                  refine ki_iald (F := G1 17) hx hb hK hP 13 12 rfl rfl (by omega) (by omega) (by decide) dX6_look_76 ?_
                  have hbd_22 := hB1.2 17 ev
                  refine ki_iast (F := G1 17) hx hb hK hP hD hS 13 12 rfl rfl (by omega) (by omega) (by decide) dX6_look_77 (fun H locs hP hD hS => ?_)
                  have hP : va_P (dC, dI) kxCl (mW mo ma cs J (va_up G1 17 (upI (G1 17) ev (G1 17 ev)))) H := hP
                  have hD : va_D A (mW mo ma cs J (va_up G1 17 (upI (G1 17) ev (G1 17 ev)))) := hD
                  refine lv_iinc (v := iz (k + (-1))) (lv' := [(2, .int (iz (k + (-1)))), (1, .int (iz ev)), (0, .ref mo)]) hx hb dX6_look_78 hl (k := 0) rfl (iz_add k (-1)) (by decide) rfl (fun ls hl => ?_)
                  refine lv_goto (tgt := 39) hx hb dX6_look_81 (by decide) ?_
                  exact ih39 (k + (-1)) (va_up G1 17 (upI (G1 17) ev (G1 17 ev))) ⟨(mB_f hB1 17 ev (by omega) (by omega)), mfr.upF hf1 (by decide) _, fun j hj => (upI_ne _ _ hj).trans (ho1 j hj), by have e9 : (va_up G1 17 (upI (G1 17) ev (G1 17 ev))) 17 ev = G1 17 ev := upI_self _ _ _; rw [e9]; exact hv1, by omega⟩ (by omega) _ _ hP hD hS ls (lv_sub hl [0, 1, 2] rfl)
                · skip
                  refine lv_aload_n hx hb dX6_look_58 rfl (lv_at hl 2 rfl) ?_
                  refine lv_iload_n hx hb dX6_look_59 rfl (lv_at hl 1 rfl) ?_
                  refine lv_iload_n hx hb dX6_look_60 rfl (lv_at hl 0 rfl) ?_
                  refine mk_calli (As := [.int (iz ev), .int (iz k)]) (rest := [.int (iz ev), .ref (ma 17)]) ⟨hx, hb, hml, hown, hts⟩ (k_areAlike l dC dI mo ma cs J G1 ev k H.size hB1 (by omega) (by omega) (fun e => by rw [hf1.2 5 (by decide), f5]; exact hn e) (by omega) (by omega)) (cwV 2 hts (kx_gV kq_07_mlook_6 kq_07_mlook_7 kq_07_mlook_8 kq_04_msmall_6 kq_07_mlook_9 rfl) rfl rfl rfl (by decide +kernel) ⟨Nat.le_of_ble_eq_true rfl, Nat.le_of_ble_eq_true rfl⟩) hP hD hK hG hZ hS hA rfl hl.1 rfl (Nat.le_of_ble_eq_true rfl) dX6_look_61 ⟨Nat.le_of_ble_eq_true rfl, Nat.le_of_ble_eq_true rfl⟩ (fun z_23 I_25 F_26 H locs hq_24 hP hD hS => ?_)
                  try dsimp only at hq_24
                  obtain ⟨rfl, rfl, hq_24⟩ := hq_24
                  refine ki_if_eq (tgt := 71) hx hb dX6_look_64 (by decide) (by omega) (by omega) (fun c_27 => ?_) (fun c_27 => ?_)
                  · skip
                    refine lv_aload_n hx hb dX6_look_71 rfl (lv_at hl 2 rfl) ?_
                    refine va_get (D := (dC, dI)) (ci := 6) (v := .ref (ma 17)) (C := RX6) (T := TX6) (N := 44) hx hb hts kt_X6 hown hK hP 0 rfl rfl 17 (by decide) (kx_word hG kq_06_mway_15 rfl) (fun _ h9 => h9) rfl dX6_look_72 ?_
                    refine lv_iload_n hx hb dX6_look_75 rfl (lv_at hl 1 rfl) ?_
                    refine ki_iald (F := G1 17) hx hb hK hP 13 12 rfl rfl (by omega) (by omega) (by decide) dX6_look_76 ?_
                    have hbd_28 := hB1.2 17 ev
                    refine ki_iast (F := G1 17) hx hb hK hP hD hS 13 12 rfl rfl (by omega) (by omega) (by decide) dX6_look_77 (fun H locs hP hD hS => ?_)
                    have hP : va_P (dC, dI) kxCl (mW mo ma cs J (va_up G1 17 (upI (G1 17) ev (G1 17 ev)))) H := hP
                    have hD : va_D A (mW mo ma cs J (va_up G1 17 (upI (G1 17) ev (G1 17 ev)))) := hD
                    refine lv_iinc (v := iz (k + (-1))) (lv' := [(2, .int (iz (k + (-1)))), (1, .int (iz ev)), (0, .ref mo)]) hx hb dX6_look_78 hl (k := 0) rfl (iz_add k (-1)) (by decide) rfl (fun ls hl => ?_)
                    refine lv_goto (tgt := 39) hx hb dX6_look_81 (by decide) ?_
                    exact ih39 (k + (-1)) (va_up G1 17 (upI (G1 17) ev (G1 17 ev))) ⟨(mB_f hB1 17 ev (by omega) (by omega)), mfr.upF hf1 (by decide) _, fun j hj => (upI_ne _ _ hj).trans (ho1 j hj), by have e9 : (va_up G1 17 (upI (G1 17) ev (G1 17 ev))) 17 ev = G1 17 ev := upI_self _ _ _; rw [e9]; exact hv1, by omega⟩ (by omega) _ _ hP hD hS ls (lv_sub hl [0, 1, 2] rfl)
                  · skip
                    refine lv_iload_n hx hb dX6_look_67 rfl (lv_at hl 0 rfl) ?_
                    refine lv_goto (tgt := 77) hx hb dX6_look_68 (by decide) ?_
                    refine ki_iast (F := G1 17) hx hb hK hP hD hS 13 12 rfl rfl (by omega) (by omega) (by decide) dX6_look_77 (fun H locs hP hD hS => ?_)
                    have hP : va_P (dC, dI) kxCl (mW mo ma cs J (va_up G1 17 (upI (G1 17) ev k))) H := hP
                    have hD : va_D A (mW mo ma cs J (va_up G1 17 (upI (G1 17) ev k))) := hD
                    refine lv_iinc (v := iz (k + (-1))) (lv' := [(2, .int (iz (k + (-1)))), (1, .int (iz ev)), (0, .ref mo)]) hx hb dX6_look_78 hl (k := 0) rfl (iz_add k (-1)) (by decide) rfl (fun ls hl => ?_)
                    refine lv_goto (tgt := 39) hx hb dX6_look_81 (by decide) ?_
                    exact ih39 (k + (-1)) (va_up G1 17 (upI (G1 17) ev k)) ⟨(mB_f hB1 17 ev (by omega) (by omega)), mfr.upF hf1 (by decide) _, fun j hj => (upI_ne _ _ hj).trans (ho1 j hj), by have e9 : (va_up G1 17 (upI (G1 17) ev k)) 17 ev = k := upI_self _ _ _; rw [e9]; exact ⟨by omega, by omega, ((hq_24.2 (by omega)).symm)⟩, by omega⟩ (by omega) _ _ hP hD hS ls (lv_sub hl [0, 1, 2] rfl)
          exact lp39 _ (ev - 1) (va_up G 17 (upI (G 17) ev ev)) ⟨(mB_f hBJ 17 ev (by omega) (by omega)), (mfr.upF mfr.rf (by decide) _), fun j hj => upI_ne _ _ hj, by have e9 : (va_up G 17 (upI (G 17) ev ev)) 17 ev = ev := upI_self _ _ _; rw [e9]; exact ⟨by omega, by omega, rfl⟩, by omega⟩ (Nat.lt_succ_self _) _ _ hP hD hS ls (lv_sub hl [0, 1, 2] rfl)
    exact lp20 _ 0 (va_up (va_up I 16 1) 19 0) F ⟨(mB_i (mB_i hB 16 (by omega) (by omega)) 19 (by omega) (by omega)), (mfr.upI (mfr.upI mfr.rf (by decide) _) (by decide) _), rfl, by omega, fun e a b => absurd b (by omega), by have e9 : (va_up (va_up I 16 1) 19 0) 19 = 0 := rfl; omega, fun i a b => absurd (show i < 0 from b) (by omega)⟩ (Nat.lt_succ_self _) _ _ hP hD hS ls (lv_sub hl [0, 1] rfl)
  · skip
    rw [← hQe]
    exact mk_ret hx hb hr hlocks hP hD hK hS dX6_look_7 (by have h9 := hkn (by omega); exact ⟨hB, mfr.rf, by omega, h9.1, h9.2.1, h9.2.2⟩)
