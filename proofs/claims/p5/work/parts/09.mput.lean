/-! the reference: locators, rows to see, the style's fault, and what is put -/
def mSe (I : Nat → Int) (F : Nat → Int → Int) : Prop := ∀ e k, 0 ≤ e → e < I 1 → 0 ≤ k → k < F 13 e → 0 ≤ F 12 (5 * e + k) ∧ F 12 (5 * e + k) < I 1
def mSh (n : Int) (I : Nat → Int) (F : Nat → Int → Int) : Prop := ∀ i, 0 ≤ i → i < I 35 → 0 ≤ F 34 i ∧ F 34 i < n
theorem mSh.add {n v : Int} {I J : Nat → Int} {F G : Nat → Int → Int} (h : mSh n I F) (h1 : J 35 = I 35 + 1) (h2 : G 34 = upI (F 34) (I 35) v) (hv : 0 ≤ v ∧ v < n) : mSh n J G := by
  intro i a b
  rw [h1] at b
  rw [h2]
  by_cases e : i = I 35
  · rw [e, upI_self]; exact hv
  · rw [upI_ne _ _ e]; exact h i a (by omega)
def sumI (g : Int → Int) : Nat → Int
  | 0 => 0
  | n + 1 => sumI g n + g n
theorem sumI_nn {g : Int → Int} (h : ∀ j, 0 ≤ g j) (n : Nat) : 0 ≤ sumI g n := by
  induction n with
  | zero => exact Int.le_refl 0
  | succ n ih => have := h n; show 0 ≤ sumI g n + g n; omega
theorem sumI_le {g : Int → Int} (h : ∀ j, 0 ≤ g j) {a b : Nat} (hab : a ≤ b) : sumI g a ≤ sumI g b := by
  induction b with
  | zero => rw [show a = 0 by omega]; exact Int.le_refl _
  | succ b ih =>
    by_cases e : a = b + 1
    · rw [e]; exact Int.le_refl _
    · have h1 := ih (by omega)
      have h2 := h b
      show sumI g a ≤ sumI g b + g b
      omega
theorem sumI_succ (g : Int → Int) {e : Int} (h : 0 ≤ e) : sumI g (e + 1).toNat = sumI g e.toNat + g e := by
  rw [show (e + 1).toNat = e.toNat + 1 by omega]
  show sumI g e.toNat + g (e.toNat : Int) = _
  rw [Int.toNat_of_nonneg h]
def mBr (n : Int) (I : Nat → Int) (F : Nat → Int → Int) : Prop := ∀ j, 0 ≤ j → j < n → 0 ≤ F 38 j ∧ F 38 j ≤ I 37
theorem mBr.add {n v : Int} {I : Nat → Int} {F G : Nat → Int → Int} (h : mBr n I F) (h2 : G 38 = upI (F 38) n v) (hv : 0 ≤ v ∧ v ≤ I 37) : mBr (n + 1) I G := by
  intro j a b
  rw [h2]
  by_cases e : j = n
  · rw [e, upI_self]; exact hv
  · rw [upI_ne _ _ e]; exact h j a (by omega)
theorem mBr.last {n v : Int} {I : Nat → Int} {F G : Nat → Int → Int} (hn : n = 3) (h : mBr n I F) (h2 : G 38 = upI (F 38) 3 v) (hv : 0 ≤ v ∧ v ≤ I 37) : mBr 4 I G := by
  subst hn
  exact mBr.add h h2 hv
def mDr (I : Nat → Int) : Prop := 0 ≤ I 42 ∧ I 42 ≤ 6000 ∧ (I 43 = 0 ∨ I 43 = 1)
theorem mz_ten {n u : Int} (hu : 0 < u) (h : 9 < n / u) : 10 * u ≤ n := by
  have h1 := Int.ediv_mul_le n (show u ≠ 0 by omega)
  have h2 := Int.mul_le_mul_of_nonneg_right (show 10 ≤ n / u by omega) (show 0 ≤ u by omega)
  omega
theorem kq_09_mput_0 : (Cond.fieldLink RX6 178 "IndexSortModel" "foundKind" "I") ∈ lw_tbl := by decide +kernel
theorem kq_09_mput_1 : (Cond.fieldLink RX6 181 "IndexSortModel" "foundFrom" "I") ∈ lw_tbl := by decide +kernel
theorem kq_09_mput_2 : (Cond.fieldLink RX6 184 "IndexSortModel" "foundTo" "I") ∈ lw_tbl := by decide +kernel
theorem kq_09_mput_3 : (Cond.fieldLink RX6 187 "IndexSortModel" "shows" "I") ∈ lw_tbl := by decide +kernel
theorem kq_09_mput_4 : (Cond.fieldLink RX6 87 "IndexSortModel" "shown" "[I") ∈ lw_tbl := by decide +kernel
theorem kq_09_mput_5 : (Cond.fieldLink RX6 93 "IndexSortModel" "bars" "[I") ∈ lw_tbl := by decide +kernel
theorem kq_09_mput_6 : (Cond.methodLink RX6 214 yX6_isMark) ∈ lw_tbl := by decide +kernel
theorem kq_09_mput_7 : (Cond.static yX6_isMark) ∈ lw_tbl := by decide +kernel
theorem kq_09_mput_8 : (Cond.code yX6_isMark cX6_isMark 1 (some .boolean)) ∈ lw_tbl := by decide +kernel
theorem kq_09_mput_9 : (Cond.fieldLink RX6 217 "IndexSortModel" "drafted" "I") ∈ lw_tbl := by decide +kernel
theorem kq_09_mput_10 : (Cond.fieldLink RX6 100 "IndexSortModel" "draft" "[B") ∈ lw_tbl := by decide +kernel
theorem kq_09_mput_11 : (Cond.fieldLink RX6 220 "IndexSortModel" "over" "Z") ∈ lw_tbl := by decide +kernel
theorem kq_09_mput_12 : (Cond.methodLink RX6 223 yX6_put) ∈ lw_tbl := by decide +kernel
theorem kq_09_mput_13 : (Cond.instanceMethod yX6_put) ∈ lw_tbl := by decide +kernel
theorem kq_09_mput_14 : (Cond.selects RX6 yX6_put yX6_put) ∈ lw_tbl := by decide +kernel
theorem kq_09_mput_15 : (Cond.code yX6_put cX6_put 2 none) ∈ lw_tbl := by decide +kernel
theorem kq_09_mput_16 : (Cond.methodLink RX6 226 yX6_putPair) ∈ lw_tbl := by decide +kernel
theorem kq_09_mput_17 : (Cond.instanceMethod yX6_putPair) ∈ lw_tbl := by decide +kernel
theorem kq_09_mput_18 : (Cond.selects RX6 yX6_putPair yX6_putPair) ∈ lw_tbl := by decide +kernel
theorem kq_09_mput_19 : (Cond.code yX6_putPair cX6_putPair 3 none) ∈ lw_tbl := by decide +kernel
theorem kq_09_mput_20 : (Cond.methodLink RX6 232 yX6_putNumber) ∈ lw_tbl := by decide +kernel
theorem kq_09_mput_21 : (Cond.instanceMethod yX6_putNumber) ∈ lw_tbl := by decide +kernel
theorem kq_09_mput_22 : (Cond.selects RX6 yX6_putNumber yX6_putNumber) ∈ lw_tbl := by decide +kernel
theorem kq_09_mput_23 : (Cond.code yX6_putNumber cX6_putNumber 3 none) ∈ lw_tbl := by decide +kernel
theorem kq_09_mput_24 : (Cond.methodLink RX6 229 yX6_putSmallRoman) ∈ lw_tbl := by decide +kernel
theorem kq_09_mput_25 : (Cond.instanceMethod yX6_putSmallRoman) ∈ lw_tbl := by decide +kernel
theorem kq_09_mput_26 : (Cond.selects RX6 yX6_putSmallRoman yX6_putSmallRoman) ∈ lw_tbl := by decide +kernel
theorem kq_09_mput_27 : (Cond.code yX6_putSmallRoman cX6_putSmallRoman 3 none) ∈ lw_tbl := by decide +kernel
set_option maxHeartbeats 4000000 in
set_option maxRecDepth 100000 in
theorem k_locate (l : Launch) (dC : Nat → ClassId) (dI : Nat → Nat → Nat) (mo : Nat) (ma : Nat → Nat) (cs : Nat → ClassId) (I : Nat → Int) (F : Nat → Int → Int) (ask : Int) (sz : Nat) (hB : mB I F) (hg : 0 ≤ I 29 ∧ I 29 ≤ 1700) (hgt : mGt (I 29) F) (hfd : mFd I) (hask1 : -2147483648 ≤ ask) (hask2 : ask < 2147483648) : mMi l yX6_locate (.code yX6_locate cX6_locate 10 (some .int)) 0 0 dC dI mo ma cs I F [.ref mo, .int (iz ask)] sz (fun (r : Int) (I' : Nat → Int) (F' : Nat → Int → Int) => F = F' ∧ mB I' F ∧ mfr [31, 32, 33] [] I F I' F ∧ mFd I' ∧ (0 ≤ r ∧ r ≤ 3400)) := by
  refine Met.ofW (cc := cX6_locate) (maxL := 10) (ret := (some .int)) (by decide) rfl ?_
  intro p e s m args below meth c s₁ B hml hv
  obtain ⟨rfl, hsz, hP, hK, hD0, hG, hZ⟩ := hv
  have hx := B.exec
  have hb := B.bytes
  have hr := B.returns
  have hts := kx_hts (a := ([.ref mo, .int (iz ask)] : List Value).toArray) hG
  have hown : s.vm.findClass RX6 = some m.cls := findClass_of_methodNamed B.named
  have hlocks := B.notSynchronized
  subst hsz
  have hD := hD0.self (sz := s.heap.size)
  generalize hAe : va_A (mW mo ma cs I F) s.heap.size = A at hD hZ ⊢
  have hA : ∀ q : Nat, s.heap.size ≤ q → A q := fun q h => by rw [← hAe]; exact Or.inr h
  have hS : va_S A s.heap s.heap [] := va_S.rf
  have hl := lv_entry ([.ref mo, .int (iz ask)]) (n := 10) (Nat.le_of_ble_eq_true rfl)
  rw [lg_entry_eq]
  generalize (lg_sl ([.ref mo, .int (iz ask)]) ++ List.replicate (10 - (lg_sl ([.ref mo, .int (iz ask)])).length) Slot.unset).toArray = ls at hl ⊢
  have hl : lv_has ls 10 [(0, .ref mo), (1, .int (iz ask))] := hl
  generalize hQe : MQ below (mQi dC dI mo ma cs A (fun (r : Int) (I' : Nat → Int) (F' : Nat → Int → Int) => F = F' ∧ mB I' F ∧ mfr [31, 32, 33] [] I F I' F ∧ mFd I' ∧ (0 ≤ r ∧ r ≤ 3400))) ([.ref mo, .int (iz ask)] : List Value).toArray s 0 0 A = QQ
  refine lv_iconst (v := iz 0) hx hb dX6_locate_0 (by decide) ?_
  refine lv_istore_n (lv' := [(2, .int (iz 0)), (0, .ref mo), (1, .int (iz ask))]) hx hb dX6_locate_1 rfl hl (by decide) rfl (fun ls hl => ?_)
  refine lv_iconst (v := iz 0) hx hb dX6_locate_2 (by decide) ?_
  refine lv_istore_n (lv' := [(3, .int (iz 0)), (2, .int (iz 0)), (0, .ref mo), (1, .int (iz ask))]) hx hb dX6_locate_3 rfl hl (by decide) rfl (fun ls hl => ?_)
  have lp4 : ∀ (n : Nat) (nz k : Int) (J : Nat → Int), ((mB J F) ∧ (mfr [31, 32, 33] [] I F J F) ∧ (mFd J) ∧ (0 ≤ k ∧ k ≤ I 29) ∧ (0 ≤ nz ∧ nz ≤ 2 * k)) → (I 29 - k).toNat < n → ∀ (H : Heap) (locs : List Loc), va_P (dC, dI) kxCl (mW mo ma cs J F) H → va_D A (mW mo ma cs J F) → va_S A s.heap H locs → ∀ ls : Array Slot, lv_has ls 10 [(3, .int (iz k)), (2, .int (iz nz)), (0, .ref mo), (1, .int (iz ask))] → W p l e (headSpec [.code yX6_locate cX6_locate 10 (some .int)] ({ frames := 0, cells := 0, slots := 0, locals := 0 })).room s m ([.ref mo, .int (iz ask)] : List Value).toArray below meth c H locs 0 0 QQ (F0 m 4 ls []) := by
    intro n
    induction n with
    | zero => intro nz k J hinv hm; exact absurd hm (Nat.not_lt_zero _)
    | succ n ih4 =>
      intro nz k J hinv hm H locs hP hD hS ls hl
      obtain ⟨hBJ, hfJ, hfdJ, hk, hnz⟩ := hinv
      have e29 := hfJ.1 29 (by decide)
      refine lv_iload_n hx hb dX6_locate_4 rfl (lv_at hl 0 rfl) ?_
      refine lv_aload_n hx hb dX6_locate_5 rfl (lv_at hl 2 rfl) ?_
      refine va_get (D := (dC, dI)) (ci := 6) (v := .int (iz (J 29))) (C := RX6) (T := TX6) (N := 44) hx hb hts kt_X6 hown hK hP 0 rfl rfl 29 (by decide) (kx_word hG kq_08_mgather_0 rfl) (fun _ h9 => h9) rfl dX6_locate_6 ?_
      have hbd_1 := hBJ.1 29
      refine ki_icmp_ge (tgt := 226) hx hb dX6_locate_9 (by decide) (by omega) (by omega) (by omega) (by omega) (fun c_2 => ?_) (fun c_2 => ?_)
      · skip
        refine lv_iload_n hx hb dX6_locate_226 rfl (lv_at hl 1 rfl) ?_
        rw [← hQe]
        exact mk_ireti hx hb hr hlocks hP hD hK hS dX6_locate_227 (⟨rfl, hBJ, hfJ, hfdJ, by omega⟩)
      · skip
        refine lv_aload_n hx hb dX6_locate_12 rfl (lv_at hl 2 rfl) ?_
        refine va_get (D := (dC, dI)) (ci := 6) (v := .ref (ma 25)) (C := RX6) (T := TX6) (N := 44) hx hb hts kt_X6 hown hK hP 0 rfl rfl 25 (by decide) (kx_word hG kq_08_mgather_1 rfl) (fun _ h9 => h9) rfl dX6_locate_13 ?_
        refine lv_iload_n hx hb dX6_locate_16 rfl (lv_at hl 0 rfl) ?_
        refine ki_iald (F := F 25) hx hb hK hP 20 19 rfl rfl (by omega) (by omega) (by decide) dX6_locate_17 ?_
        have hbd_3 := hBJ.2 25 k
        refine lv_istore (lv' := [(4, .int (iz (F 25 k))), (3, .int (iz k)), (2, .int (iz nz)), (0, .ref mo), (1, .int (iz ask))]) hx hb dX6_locate_18 hl (by decide) rfl (fun ls hl => ?_)
        refine lv_aload_n hx hb dX6_locate_20 rfl (lv_at hl 3 rfl) ?_
        refine va_get (D := (dC, dI)) (ci := 6) (v := .ref (ma 26)) (C := RX6) (T := TX6) (N := 44) hx hb hts kt_X6 hown hK hP 0 rfl rfl 26 (by decide) (kx_word hG kq_08_mgather_2 rfl) (fun _ h9 => h9) rfl dX6_locate_21 ?_
        refine lv_iload_n hx hb dX6_locate_24 rfl (lv_at hl 1 rfl) ?_
        refine ki_iald (F := F 26) hx hb hK hP 21 20 rfl rfl (by omega) (by omega) (by decide) dX6_locate_25 ?_
        have hbd_4 := hBJ.2 26 k
        refine lv_istore (lv' := [(5, .int (iz (F 26 k))), (4, .int (iz (F 25 k))), (3, .int (iz k)), (2, .int (iz nz)), (0, .ref mo), (1, .int (iz ask))]) hx hb dX6_locate_26 hl (by decide) rfl (fun ls hl => ?_)
        refine lv_aload_n hx hb dX6_locate_28 rfl (lv_at hl 4 rfl) ?_
        refine va_get (D := (dC, dI)) (ci := 6) (v := .ref (ma 27)) (C := RX6) (T := TX6) (N := 44) hx hb hts kt_X6 hown hK hP 0 rfl rfl 27 (by decide) (kx_word hG kq_08_mgather_3 rfl) (fun _ h9 => h9) rfl dX6_locate_29 ?_
        refine lv_iload_n hx hb dX6_locate_32 rfl (lv_at hl 2 rfl) ?_
        refine ki_iald (F := F 27) hx hb hK hP 22 21 rfl rfl (by omega) (by omega) (by decide) dX6_locate_33 ?_
        have hbd_5 := hBJ.2 27 k
        refine lv_istore (lv' := [(6, .int (iz (F 27 k))), (5, .int (iz (F 26 k))), (4, .int (iz (F 25 k))), (3, .int (iz k)), (2, .int (iz nz)), (0, .ref mo), (1, .int (iz ask))]) hx hb dX6_locate_34 hl (by decide) rfl (fun ls hl => ?_)
        refine lv_iconst (v := iz 0) hx hb dX6_locate_36 (by decide) ?_
        refine lv_istore (lv' := [(7, .int (iz 0)), (6, .int (iz (F 27 k))), (5, .int (iz (F 26 k))), (4, .int (iz (F 25 k))), (3, .int (iz k)), (2, .int (iz nz)), (0, .ref mo), (1, .int (iz ask))]) hx hb dX6_locate_37 hl (by decide) rfl (fun ls hl => ?_)
        have hgk := hgt k (by omega) (by omega)
        have lp39 : ∀ (n : Nat) (kk to rg : Int), ((k ≤ kk ∧ kk ≤ I 29) ∧ (F 27 k ≤ to ∧ to ≤ 99999) ∧ (rg = 0 ∨ rg = 1) ∧ (kk = k → F 25 kk = F 25 k ∧ F 26 kk = F 26 k)) → (I 29 - kk).toNat < n → ∀ (H : Heap) (locs : List Loc), va_P (dC, dI) kxCl (mW mo ma cs J F) H → va_D A (mW mo ma cs J F) → va_S A s.heap H locs → ∀ ls : Array Slot, lv_has ls 10 [(7, .int (iz rg)), (6, .int (iz to)), (5, .int (iz (F 26 k))), (4, .int (iz (F 25 k))), (3, .int (iz kk)), (2, .int (iz nz)), (0, .ref mo), (1, .int (iz ask))] → W p l e (headSpec [.code yX6_locate cX6_locate 10 (some .int)] ({ frames := 0, cells := 0, slots := 0, locals := 0 })).room s m ([.ref mo, .int (iz ask)] : List Value).toArray below meth c H locs 0 0 QQ (F0 m 39 ls []) := by
          intro n
          induction n with
          | zero => intro kk to rg hinv hm; exact absurd hm (Nat.not_lt_zero _)
          | succ n ih39 =>
            intro kk to rg hinv hm H locs hP hD hS ls hl
            obtain ⟨hkk, hto, hrg, heq⟩ := hinv
            refine lv_iload_n hx hb dX6_locate_39 rfl (lv_at hl 4 rfl) ?_
            refine lv_aload_n hx hb dX6_locate_40 rfl (lv_at hl 6 rfl) ?_
            refine va_get (D := (dC, dI)) (ci := 6) (v := .int (iz (J 29))) (C := RX6) (T := TX6) (N := 44) hx hb hts kt_X6 hown hK hP 0 rfl rfl 29 (by decide) (kx_word hG kq_08_mgather_0 rfl) (fun _ h9 => h9) rfl dX6_locate_41 ?_
            refine ki_icmp_ge (tgt := 122) hx hb dX6_locate_44 (by decide) (by omega) (by omega) (by omega) (by omega) (fun c_6 => ?_) (fun c_6 => ?_)
            · skip
              refine lv_iload hx hb dX6_locate_122 (lv_at hl 0 rfl) ?_
              refine ki_if_ne (tgt := 136) hx hb dX6_locate_124 (by decide) (by omega) (by omega) (fun c_7 => ?_) (fun c_7 => ?_)
              · skip
                refine lv_iconst (v := iz 1) hx hb dX6_locate_136 (by decide) ?_
                refine lv_goto (tgt := 141) hx hb dX6_locate_137 (by decide) ?_
                refine lv_istore (lv' := [(8, .int (iz 1)), (7, .int (iz rg)), (6, .int (iz to)), (5, .int (iz (F 26 k))), (4, .int (iz (F 25 k))), (3, .int (iz kk)), (2, .int (iz nz)), (0, .ref mo), (1, .int (iz ask))]) hx hb dX6_locate_141 hl (by decide) rfl (fun ls hl => ?_)
                refine lv_iload hx hb dX6_locate_143 (lv_at hl 0 rfl) ?_
                refine ki_if_eq (tgt := 152) hx hb dX6_locate_145 (by decide) (by omega) (by omega) (fun c_8 => ?_) (fun c_8 => ?_)
                · omega
                · skip
                  refine lv_iconst (v := iz 1) hx hb dX6_locate_148 (by decide) ?_
                  refine lv_goto (tgt := 159) hx hb dX6_locate_149 (by decide) ?_
                  refine lv_istore (lv' := [(9, .int (iz 1)), (8, .int (iz 1)), (7, .int (iz rg)), (6, .int (iz to)), (5, .int (iz (F 26 k))), (4, .int (iz (F 25 k))), (3, .int (iz kk)), (2, .int (iz nz)), (0, .ref mo), (1, .int (iz ask))]) hx hb dX6_locate_159 hl (by decide) rfl (fun ls hl => ?_)
                  refine lv_iload_n hx hb dX6_locate_161 rfl (lv_at hl 9 rfl) ?_
                  refine lv_iload_n hx hb dX6_locate_162 rfl (lv_at hl 7 rfl) ?_
                  refine ki_icmp_lt (tgt := 218) hx hb dX6_locate_163 (by decide) (by omega) (by omega) (by omega) (by omega) (fun c_9 => ?_) (fun c_9 => ?_)
                  · skip
                    refine lv_iload_n hx hb dX6_locate_218 rfl (lv_at hl 7 rfl) ?_
                    refine lv_iload hx hb dX6_locate_219 (lv_at hl 0 rfl) ?_
                    refine ki_iadd hx hb dX6_locate_221 ?_
                    refine lv_istore_n (lv' := [(2, .int (iz (nz + 1))), (9, .int (iz 1)), (8, .int (iz 1)), (7, .int (iz rg)), (6, .int (iz to)), (5, .int (iz (F 26 k))), (4, .int (iz (F 25 k))), (3, .int (iz kk)), (0, .ref mo), (1, .int (iz ask))]) hx hb dX6_locate_222 rfl hl (by decide) rfl (fun ls hl => ?_)
                    refine lv_goto (tgt := 4) hx hb dX6_locate_223 (by decide) ?_
                    exact ih4 (nz + 1) kk J ⟨hBJ, hfJ, by simp [mFd, va_up] at hfdJ ⊢; omega, by omega, by omega⟩ (by omega) _ _ hP hD hS ls (lv_sub hl [7, 0, 8, 9] rfl)
                  · skip
                    refine lv_iload_n hx hb dX6_locate_166 rfl (lv_at hl 9 rfl) ?_
                    refine lv_iload_n hx hb dX6_locate_167 rfl (lv_at hl 7 rfl) ?_
                    refine lv_iload hx hb dX6_locate_168 (lv_at hl 0 rfl) ?_
                    refine ki_iadd hx hb dX6_locate_170 ?_
                    refine ki_icmp_ge (tgt := 218) hx hb dX6_locate_171 (by decide) (by omega) (by omega) (by omega) (by omega) (fun c_10 => ?_) (fun c_10 => ?_)
                    · skip
                      refine lv_iload_n hx hb dX6_locate_218 rfl (lv_at hl 7 rfl) ?_
                      refine lv_iload hx hb dX6_locate_219 (lv_at hl 0 rfl) ?_
                      refine ki_iadd hx hb dX6_locate_221 ?_
                      refine lv_istore_n (lv' := [(2, .int (iz (nz + 1))), (9, .int (iz 1)), (8, .int (iz 1)), (7, .int (iz rg)), (6, .int (iz to)), (5, .int (iz (F 26 k))), (4, .int (iz (F 25 k))), (3, .int (iz kk)), (0, .ref mo), (1, .int (iz ask))]) hx hb dX6_locate_222 rfl hl (by decide) rfl (fun ls hl => ?_)
                      refine lv_goto (tgt := 4) hx hb dX6_locate_223 (by decide) ?_
                      exact ih4 (nz + 1) kk J ⟨hBJ, hfJ, by simp [mFd, va_up] at hfdJ ⊢; omega, by omega, by omega⟩ (by omega) _ _ hP hD hS ls (lv_sub hl [7, 0, 8, 9] rfl)
                    · skip
                      refine lv_aload_n hx hb dX6_locate_174 rfl (lv_at hl 8 rfl) ?_
                      refine lv_iload hx hb dX6_locate_175 (lv_at hl 5 rfl) ?_
                      refine va_put (D := (dC, dI)) (ci := 6) (v := .int (iz (F 25 k))) (ty := .int) (C := RX6) (T := TX6) (N := 44) hx hb hts kt_X6 tyX6 tyX6_ok nmX6 hown hK hP hD hS 0 rfl rfl 31 (by decide) (kx_word hG kq_09_mput_0 rfl) (fun _ h9 => h9) rfl (by decide +kernel) rfl rfl (Nat.le_of_ble_eq_true rfl) dX6_locate_177 (fun H locs hP hD hS => ?_)
                      have hP : va_P (dC, dI) kxCl (mW mo ma cs (va_up J 31 (F 25 k)) F) H := hP
                      have hD : va_D A (mW mo ma cs (va_up J 31 (F 25 k)) F) := hD
                      refine lv_aload_n hx hb dX6_locate_180 rfl (lv_at hl 8 rfl) ?_
                      refine lv_iload hx hb dX6_locate_181 (lv_at hl 1 rfl) ?_
                      refine ki_if_eq (tgt := 191) hx hb dX6_locate_183 (by decide) (by omega) (by omega) (fun c_11 => ?_) (fun c_11 => ?_)
                      · omega
                      · skip
                        refine lv_iload hx hb dX6_locate_186 (lv_at hl 4 rfl) ?_
                        refine lv_goto (tgt := 197) hx hb dX6_locate_188 (by decide) ?_
                        refine va_put (D := (dC, dI)) (ci := 6) (v := .int (iz (F 26 k))) (ty := .int) (C := RX6) (T := TX6) (N := 44) hx hb hts kt_X6 tyX6 tyX6_ok nmX6 hown hK hP hD hS 0 rfl rfl 32 (by decide) (kx_word hG kq_09_mput_1 rfl) (fun _ h9 => h9) rfl (by decide +kernel) rfl rfl (Nat.le_of_ble_eq_true rfl) dX6_locate_197 (fun H locs hP hD hS => ?_)
                        have hP : va_P (dC, dI) kxCl (mW mo ma cs (va_up (va_up J 31 (F 25 k)) 32 (F 26 k)) F) H := hP
                        have hD : va_D A (mW mo ma cs (va_up (va_up J 31 (F 25 k)) 32 (F 26 k)) F) := hD
                        refine lv_aload_n hx hb dX6_locate_200 rfl (lv_at hl 8 rfl) ?_
                        refine lv_iload hx hb dX6_locate_201 (lv_at hl 1 rfl) ?_
                        refine ki_if_eq (tgt := 211) hx hb dX6_locate_203 (by decide) (by omega) (by omega) (fun c_12 => ?_) (fun c_12 => ?_)
                        · omega
                        · skip
                          refine lv_iload hx hb dX6_locate_206 (lv_at hl 3 rfl) ?_
                          refine lv_goto (tgt := 215) hx hb dX6_locate_208 (by decide) ?_
                          refine va_put (D := (dC, dI)) (ci := 6) (v := .int (iz to)) (ty := .int) (C := RX6) (T := TX6) (N := 44) hx hb hts kt_X6 tyX6 tyX6_ok nmX6 hown hK hP hD hS 0 rfl rfl 33 (by decide) (kx_word hG kq_09_mput_2 rfl) (fun _ h9 => h9) rfl (by decide +kernel) rfl rfl (Nat.le_of_ble_eq_true rfl) dX6_locate_215 (fun H locs hP hD hS => ?_)
                          have hP : va_P (dC, dI) kxCl (mW mo ma cs (va_up (va_up (va_up J 31 (F 25 k)) 32 (F 26 k)) 33 to) F) H := hP
                          have hD : va_D A (mW mo ma cs (va_up (va_up (va_up J 31 (F 25 k)) 32 (F 26 k)) 33 to) F) := hD
                          refine lv_iload_n hx hb dX6_locate_218 rfl (lv_at hl 7 rfl) ?_
                          refine lv_iload hx hb dX6_locate_219 (lv_at hl 0 rfl) ?_
                          refine ki_iadd hx hb dX6_locate_221 ?_
                          refine lv_istore_n (lv' := [(2, .int (iz (nz + 1))), (9, .int (iz 1)), (8, .int (iz 1)), (7, .int (iz rg)), (6, .int (iz to)), (5, .int (iz (F 26 k))), (4, .int (iz (F 25 k))), (3, .int (iz kk)), (0, .ref mo), (1, .int (iz ask))]) hx hb dX6_locate_222 rfl hl (by decide) rfl (fun ls hl => ?_)
                          refine lv_goto (tgt := 4) hx hb dX6_locate_223 (by decide) ?_
                          exact ih4 (nz + 1) kk (va_up (va_up (va_up J 31 (F 25 k)) 32 (F 26 k)) 33 to) ⟨(mB_i (mB_i (mB_i hBJ 31 (by omega) (by omega)) 32 (by omega) (by omega)) 33 (by omega) (by omega)), (mfr.upI (mfr.upI (mfr.upI hfJ (by decide) _) (by decide) _) (by decide) _), by simp [mFd, va_up] at hfdJ ⊢; omega, by omega, by omega⟩ (by omega) _ _ hP hD hS ls (lv_sub hl [7, 0, 8, 9] rfl)
              · skip
                refine lv_iload hx hb dX6_locate_127 (lv_at hl 1 rfl) ?_
                refine lv_iload hx hb dX6_locate_129 (lv_at hl 2 rfl) ?_
                refine ki_isub hx hb dX6_locate_131 ?_
                refine lv_iconst (v := iz 1) hx hb dX6_locate_132 (by decide) ?_
                refine ki_icmp_le (tgt := 140) hx hb dX6_locate_133 (by decide) (by omega) (by omega) (by omega) (by omega) (fun c_13 => ?_) (fun c_13 => ?_)
                · skip
                  refine lv_iconst (v := iz 0) hx hb dX6_locate_140 (by decide) ?_
                  refine lv_istore (lv' := [(8, .int (iz 0)), (7, .int (iz rg)), (6, .int (iz to)), (5, .int (iz (F 26 k))), (4, .int (iz (F 25 k))), (3, .int (iz kk)), (2, .int (iz nz)), (0, .ref mo), (1, .int (iz ask))]) hx hb dX6_locate_141 hl (by decide) rfl (fun ls hl => ?_)
                  refine lv_iload hx hb dX6_locate_143 (lv_at hl 0 rfl) ?_
                  refine ki_if_eq (tgt := 152) hx hb dX6_locate_145 (by decide) (by omega) (by omega) (fun c_14 => ?_) (fun c_14 => ?_)
                  · skip
                    refine lv_iload hx hb dX6_locate_152 (lv_at hl 2 rfl) ?_
                    refine lv_iload hx hb dX6_locate_154 (lv_at hl 3 rfl) ?_
                    refine ki_isub hx hb dX6_locate_156 ?_
                    refine lv_iconst (v := iz 1) hx hb dX6_locate_157 (by decide) ?_
                    refine ki_iadd hx hb dX6_locate_158 ?_
                    refine lv_istore (lv' := [(9, .int (iz ((to - (F 26 k)) + 1))), (8, .int (iz 0)), (7, .int (iz rg)), (6, .int (iz to)), (5, .int (iz (F 26 k))), (4, .int (iz (F 25 k))), (3, .int (iz kk)), (2, .int (iz nz)), (0, .ref mo), (1, .int (iz ask))]) hx hb dX6_locate_159 hl (by decide) rfl (fun ls hl => ?_)
                    refine lv_iload_n hx hb dX6_locate_161 rfl (lv_at hl 9 rfl) ?_
                    refine lv_iload_n hx hb dX6_locate_162 rfl (lv_at hl 7 rfl) ?_
                    refine ki_icmp_lt (tgt := 218) hx hb dX6_locate_163 (by decide) (by omega) (by omega) (by omega) (by omega) (fun c_15 => ?_) (fun c_15 => ?_)
                    · skip
                      refine lv_iload_n hx hb dX6_locate_218 rfl (lv_at hl 7 rfl) ?_
                      refine lv_iload hx hb dX6_locate_219 (lv_at hl 0 rfl) ?_
                      refine ki_iadd hx hb dX6_locate_221 ?_
                      refine lv_istore_n (lv' := [(2, .int (iz (nz + ((to - (F 26 k)) + 1)))), (9, .int (iz ((to - (F 26 k)) + 1))), (8, .int (iz 0)), (7, .int (iz rg)), (6, .int (iz to)), (5, .int (iz (F 26 k))), (4, .int (iz (F 25 k))), (3, .int (iz kk)), (0, .ref mo), (1, .int (iz ask))]) hx hb dX6_locate_222 rfl hl (by decide) rfl (fun ls hl => ?_)
                      refine lv_goto (tgt := 4) hx hb dX6_locate_223 (by decide) ?_
                      exact ih4 (nz + ((to - (F 26 k)) + 1)) kk J ⟨hBJ, hfJ, by simp [mFd, va_up] at hfdJ ⊢; omega, by omega, by omega⟩ (by omega) _ _ hP hD hS ls (lv_sub hl [7, 0, 8, 9] rfl)
                    · skip
                      refine lv_iload_n hx hb dX6_locate_166 rfl (lv_at hl 9 rfl) ?_
                      refine lv_iload_n hx hb dX6_locate_167 rfl (lv_at hl 7 rfl) ?_
                      refine lv_iload hx hb dX6_locate_168 (lv_at hl 0 rfl) ?_
                      refine ki_iadd hx hb dX6_locate_170 ?_
                      refine ki_icmp_ge (tgt := 218) hx hb dX6_locate_171 (by decide) (by omega) (by omega) (by omega) (by omega) (fun c_16 => ?_) (fun c_16 => ?_)
                      · skip
                        refine lv_iload_n hx hb dX6_locate_218 rfl (lv_at hl 7 rfl) ?_
                        refine lv_iload hx hb dX6_locate_219 (lv_at hl 0 rfl) ?_
                        refine ki_iadd hx hb dX6_locate_221 ?_
                        refine lv_istore_n (lv' := [(2, .int (iz (nz + ((to - (F 26 k)) + 1)))), (9, .int (iz ((to - (F 26 k)) + 1))), (8, .int (iz 0)), (7, .int (iz rg)), (6, .int (iz to)), (5, .int (iz (F 26 k))), (4, .int (iz (F 25 k))), (3, .int (iz kk)), (0, .ref mo), (1, .int (iz ask))]) hx hb dX6_locate_222 rfl hl (by decide) rfl (fun ls hl => ?_)
                        refine lv_goto (tgt := 4) hx hb dX6_locate_223 (by decide) ?_
                        exact ih4 (nz + ((to - (F 26 k)) + 1)) kk J ⟨hBJ, hfJ, by simp [mFd, va_up] at hfdJ ⊢; omega, by omega, by omega⟩ (by omega) _ _ hP hD hS ls (lv_sub hl [7, 0, 8, 9] rfl)
                      · skip
                        refine lv_aload_n hx hb dX6_locate_174 rfl (lv_at hl 8 rfl) ?_
                        refine lv_iload hx hb dX6_locate_175 (lv_at hl 5 rfl) ?_
                        refine va_put (D := (dC, dI)) (ci := 6) (v := .int (iz (F 25 k))) (ty := .int) (C := RX6) (T := TX6) (N := 44) hx hb hts kt_X6 tyX6 tyX6_ok nmX6 hown hK hP hD hS 0 rfl rfl 31 (by decide) (kx_word hG kq_09_mput_0 rfl) (fun _ h9 => h9) rfl (by decide +kernel) rfl rfl (Nat.le_of_ble_eq_true rfl) dX6_locate_177 (fun H locs hP hD hS => ?_)
                        have hP : va_P (dC, dI) kxCl (mW mo ma cs (va_up J 31 (F 25 k)) F) H := hP
                        have hD : va_D A (mW mo ma cs (va_up J 31 (F 25 k)) F) := hD
                        refine lv_aload_n hx hb dX6_locate_180 rfl (lv_at hl 8 rfl) ?_
                        refine lv_iload hx hb dX6_locate_181 (lv_at hl 1 rfl) ?_
                        refine ki_if_eq (tgt := 191) hx hb dX6_locate_183 (by decide) (by omega) (by omega) (fun c_17 => ?_) (fun c_17 => ?_)
                        · skip
                          refine lv_iload hx hb dX6_locate_191 (lv_at hl 4 rfl) ?_
                          refine lv_iload_n hx hb dX6_locate_193 rfl (lv_at hl 9 rfl) ?_
                          refine ki_iadd hx hb dX6_locate_194 ?_
                          refine lv_iload_n hx hb dX6_locate_195 rfl (lv_at hl 7 rfl) ?_
                          refine ki_isub hx hb dX6_locate_196 ?_
                          refine va_put (D := (dC, dI)) (ci := 6) (v := .int (iz (((F 26 k) + ask) - nz))) (ty := .int) (C := RX6) (T := TX6) (N := 44) hx hb hts kt_X6 tyX6 tyX6_ok nmX6 hown hK hP hD hS 0 rfl rfl 32 (by decide) (kx_word hG kq_09_mput_1 rfl) (fun _ h9 => h9) rfl (by decide +kernel) rfl rfl (Nat.le_of_ble_eq_true rfl) dX6_locate_197 (fun H locs hP hD hS => ?_)
                          have hP : va_P (dC, dI) kxCl (mW mo ma cs (va_up (va_up J 31 (F 25 k)) 32 (((F 26 k) + ask) - nz)) F) H := hP
                          have hD : va_D A (mW mo ma cs (va_up (va_up J 31 (F 25 k)) 32 (((F 26 k) + ask) - nz)) F) := hD
                          refine lv_aload_n hx hb dX6_locate_200 rfl (lv_at hl 8 rfl) ?_
                          refine lv_iload hx hb dX6_locate_201 (lv_at hl 1 rfl) ?_
                          refine ki_if_eq (tgt := 211) hx hb dX6_locate_203 (by decide) (by omega) (by omega) (fun c_18 => ?_) (fun c_18 => ?_)
                          · skip
                            refine lv_aload_n hx hb dX6_locate_211 rfl (lv_at hl 8 rfl) ?_
                            refine va_get (D := (dC, dI)) (ci := 6) (v := .int (iz (((F 26 k) + ask) - nz))) (C := RX6) (T := TX6) (N := 44) hx hb hts kt_X6 hown hK hP 0 rfl rfl 32 (by decide) (kx_word hG kq_09_mput_1 rfl) (fun _ h9 => h9) rfl dX6_locate_212 ?_
                            refine va_put (D := (dC, dI)) (ci := 6) (v := .int (iz (((F 26 k) + ask) - nz))) (ty := .int) (C := RX6) (T := TX6) (N := 44) hx hb hts kt_X6 tyX6 tyX6_ok nmX6 hown hK hP hD hS 0 rfl rfl 33 (by decide) (kx_word hG kq_09_mput_2 rfl) (fun _ h9 => h9) rfl (by decide +kernel) rfl rfl (Nat.le_of_ble_eq_true rfl) dX6_locate_215 (fun H locs hP hD hS => ?_)
                            have hP : va_P (dC, dI) kxCl (mW mo ma cs (va_up (va_up (va_up J 31 (F 25 k)) 32 (((F 26 k) + ask) - nz)) 33 (((F 26 k) + ask) - nz)) F) H := hP
                            have hD : va_D A (mW mo ma cs (va_up (va_up (va_up J 31 (F 25 k)) 32 (((F 26 k) + ask) - nz)) 33 (((F 26 k) + ask) - nz)) F) := hD
                            refine lv_iload_n hx hb dX6_locate_218 rfl (lv_at hl 7 rfl) ?_
                            refine lv_iload hx hb dX6_locate_219 (lv_at hl 0 rfl) ?_
                            refine ki_iadd hx hb dX6_locate_221 ?_
                            refine lv_istore_n (lv' := [(2, .int (iz (nz + ((to - (F 26 k)) + 1)))), (9, .int (iz ((to - (F 26 k)) + 1))), (8, .int (iz 0)), (7, .int (iz rg)), (6, .int (iz to)), (5, .int (iz (F 26 k))), (4, .int (iz (F 25 k))), (3, .int (iz kk)), (0, .ref mo), (1, .int (iz ask))]) hx hb dX6_locate_222 rfl hl (by decide) rfl (fun ls hl => ?_)
                            refine lv_goto (tgt := 4) hx hb dX6_locate_223 (by decide) ?_
                            exact ih4 (nz + ((to - (F 26 k)) + 1)) kk (va_up (va_up (va_up J 31 (F 25 k)) 32 (((F 26 k) + ask) - nz)) 33 (((F 26 k) + ask) - nz)) ⟨(mB_i (mB_i (mB_i hBJ 31 (by omega) (by omega)) 32 (by omega) (by omega)) 33 (by omega) (by omega)), (mfr.upI (mfr.upI (mfr.upI hfJ (by decide) _) (by decide) _) (by decide) _), by simp [mFd, va_up] at hfdJ ⊢; omega, by omega, by omega⟩ (by omega) _ _ hP hD hS ls (lv_sub hl [7, 0, 8, 9] rfl)
                          · omega
                        · omega
                  · omega
                · skip
                  refine lv_iconst (v := iz 1) hx hb dX6_locate_136 (by decide) ?_
                  refine lv_goto (tgt := 141) hx hb dX6_locate_137 (by decide) ?_
                  refine lv_istore (lv' := [(8, .int (iz 1)), (7, .int (iz rg)), (6, .int (iz to)), (5, .int (iz (F 26 k))), (4, .int (iz (F 25 k))), (3, .int (iz kk)), (2, .int (iz nz)), (0, .ref mo), (1, .int (iz ask))]) hx hb dX6_locate_141 hl (by decide) rfl (fun ls hl => ?_)
                  refine lv_iload hx hb dX6_locate_143 (lv_at hl 0 rfl) ?_
                  refine ki_if_eq (tgt := 152) hx hb dX6_locate_145 (by decide) (by omega) (by omega) (fun c_19 => ?_) (fun c_19 => ?_)
                  · omega
                  · skip
                    refine lv_iconst (v := iz 1) hx hb dX6_locate_148 (by decide) ?_
                    refine lv_goto (tgt := 159) hx hb dX6_locate_149 (by decide) ?_
                    refine lv_istore (lv' := [(9, .int (iz 1)), (8, .int (iz 1)), (7, .int (iz rg)), (6, .int (iz to)), (5, .int (iz (F 26 k))), (4, .int (iz (F 25 k))), (3, .int (iz kk)), (2, .int (iz nz)), (0, .ref mo), (1, .int (iz ask))]) hx hb dX6_locate_159 hl (by decide) rfl (fun ls hl => ?_)
                    refine lv_iload_n hx hb dX6_locate_161 rfl (lv_at hl 9 rfl) ?_
                    refine lv_iload_n hx hb dX6_locate_162 rfl (lv_at hl 7 rfl) ?_
                    refine ki_icmp_lt (tgt := 218) hx hb dX6_locate_163 (by decide) (by omega) (by omega) (by omega) (by omega) (fun c_20 => ?_) (fun c_20 => ?_)
                    · skip
                      refine lv_iload_n hx hb dX6_locate_218 rfl (lv_at hl 7 rfl) ?_
                      refine lv_iload hx hb dX6_locate_219 (lv_at hl 0 rfl) ?_
                      refine ki_iadd hx hb dX6_locate_221 ?_
                      refine lv_istore_n (lv' := [(2, .int (iz (nz + 1))), (9, .int (iz 1)), (8, .int (iz 1)), (7, .int (iz rg)), (6, .int (iz to)), (5, .int (iz (F 26 k))), (4, .int (iz (F 25 k))), (3, .int (iz kk)), (0, .ref mo), (1, .int (iz ask))]) hx hb dX6_locate_222 rfl hl (by decide) rfl (fun ls hl => ?_)
                      refine lv_goto (tgt := 4) hx hb dX6_locate_223 (by decide) ?_
                      exact ih4 (nz + 1) kk J ⟨hBJ, hfJ, by simp [mFd, va_up] at hfdJ ⊢; omega, by omega, by omega⟩ (by omega) _ _ hP hD hS ls (lv_sub hl [7, 0, 8, 9] rfl)
                    · skip
                      refine lv_iload_n hx hb dX6_locate_166 rfl (lv_at hl 9 rfl) ?_
                      refine lv_iload_n hx hb dX6_locate_167 rfl (lv_at hl 7 rfl) ?_
                      refine lv_iload hx hb dX6_locate_168 (lv_at hl 0 rfl) ?_
                      refine ki_iadd hx hb dX6_locate_170 ?_
                      refine ki_icmp_ge (tgt := 218) hx hb dX6_locate_171 (by decide) (by omega) (by omega) (by omega) (by omega) (fun c_21 => ?_) (fun c_21 => ?_)
                      · skip
                        refine lv_iload_n hx hb dX6_locate_218 rfl (lv_at hl 7 rfl) ?_
                        refine lv_iload hx hb dX6_locate_219 (lv_at hl 0 rfl) ?_
                        refine ki_iadd hx hb dX6_locate_221 ?_
                        refine lv_istore_n (lv' := [(2, .int (iz (nz + 1))), (9, .int (iz 1)), (8, .int (iz 1)), (7, .int (iz rg)), (6, .int (iz to)), (5, .int (iz (F 26 k))), (4, .int (iz (F 25 k))), (3, .int (iz kk)), (0, .ref mo), (1, .int (iz ask))]) hx hb dX6_locate_222 rfl hl (by decide) rfl (fun ls hl => ?_)
                        refine lv_goto (tgt := 4) hx hb dX6_locate_223 (by decide) ?_
                        exact ih4 (nz + 1) kk J ⟨hBJ, hfJ, by simp [mFd, va_up] at hfdJ ⊢; omega, by omega, by omega⟩ (by omega) _ _ hP hD hS ls (lv_sub hl [7, 0, 8, 9] rfl)
                      · skip
                        refine lv_aload_n hx hb dX6_locate_174 rfl (lv_at hl 8 rfl) ?_
                        refine lv_iload hx hb dX6_locate_175 (lv_at hl 5 rfl) ?_
                        refine va_put (D := (dC, dI)) (ci := 6) (v := .int (iz (F 25 k))) (ty := .int) (C := RX6) (T := TX6) (N := 44) hx hb hts kt_X6 tyX6 tyX6_ok nmX6 hown hK hP hD hS 0 rfl rfl 31 (by decide) (kx_word hG kq_09_mput_0 rfl) (fun _ h9 => h9) rfl (by decide +kernel) rfl rfl (Nat.le_of_ble_eq_true rfl) dX6_locate_177 (fun H locs hP hD hS => ?_)
                        have hP : va_P (dC, dI) kxCl (mW mo ma cs (va_up J 31 (F 25 k)) F) H := hP
                        have hD : va_D A (mW mo ma cs (va_up J 31 (F 25 k)) F) := hD
                        refine lv_aload_n hx hb dX6_locate_180 rfl (lv_at hl 8 rfl) ?_
                        refine lv_iload hx hb dX6_locate_181 (lv_at hl 1 rfl) ?_
                        refine ki_if_eq (tgt := 191) hx hb dX6_locate_183 (by decide) (by omega) (by omega) (fun c_22 => ?_) (fun c_22 => ?_)
                        · omega
                        · skip
                          refine lv_iload hx hb dX6_locate_186 (lv_at hl 4 rfl) ?_
                          refine lv_goto (tgt := 197) hx hb dX6_locate_188 (by decide) ?_
                          refine va_put (D := (dC, dI)) (ci := 6) (v := .int (iz (F 26 k))) (ty := .int) (C := RX6) (T := TX6) (N := 44) hx hb hts kt_X6 tyX6 tyX6_ok nmX6 hown hK hP hD hS 0 rfl rfl 32 (by decide) (kx_word hG kq_09_mput_1 rfl) (fun _ h9 => h9) rfl (by decide +kernel) rfl rfl (Nat.le_of_ble_eq_true rfl) dX6_locate_197 (fun H locs hP hD hS => ?_)
                          have hP : va_P (dC, dI) kxCl (mW mo ma cs (va_up (va_up J 31 (F 25 k)) 32 (F 26 k)) F) H := hP
                          have hD : va_D A (mW mo ma cs (va_up (va_up J 31 (F 25 k)) 32 (F 26 k)) F) := hD
                          refine lv_aload_n hx hb dX6_locate_200 rfl (lv_at hl 8 rfl) ?_
                          refine lv_iload hx hb dX6_locate_201 (lv_at hl 1 rfl) ?_
                          refine ki_if_eq (tgt := 211) hx hb dX6_locate_203 (by decide) (by omega) (by omega) (fun c_23 => ?_) (fun c_23 => ?_)
                          · omega
                          · skip
                            refine lv_iload hx hb dX6_locate_206 (lv_at hl 3 rfl) ?_
                            refine lv_goto (tgt := 215) hx hb dX6_locate_208 (by decide) ?_
                            refine va_put (D := (dC, dI)) (ci := 6) (v := .int (iz to)) (ty := .int) (C := RX6) (T := TX6) (N := 44) hx hb hts kt_X6 tyX6 tyX6_ok nmX6 hown hK hP hD hS 0 rfl rfl 33 (by decide) (kx_word hG kq_09_mput_2 rfl) (fun _ h9 => h9) rfl (by decide +kernel) rfl rfl (Nat.le_of_ble_eq_true rfl) dX6_locate_215 (fun H locs hP hD hS => ?_)
                            have hP : va_P (dC, dI) kxCl (mW mo ma cs (va_up (va_up (va_up J 31 (F 25 k)) 32 (F 26 k)) 33 to) F) H := hP
                            have hD : va_D A (mW mo ma cs (va_up (va_up (va_up J 31 (F 25 k)) 32 (F 26 k)) 33 to) F) := hD
                            refine lv_iload_n hx hb dX6_locate_218 rfl (lv_at hl 7 rfl) ?_
                            refine lv_iload hx hb dX6_locate_219 (lv_at hl 0 rfl) ?_
                            refine ki_iadd hx hb dX6_locate_221 ?_
                            refine lv_istore_n (lv' := [(2, .int (iz (nz + 1))), (9, .int (iz 1)), (8, .int (iz 1)), (7, .int (iz rg)), (6, .int (iz to)), (5, .int (iz (F 26 k))), (4, .int (iz (F 25 k))), (3, .int (iz kk)), (0, .ref mo), (1, .int (iz ask))]) hx hb dX6_locate_222 rfl hl (by decide) rfl (fun ls hl => ?_)
                            refine lv_goto (tgt := 4) hx hb dX6_locate_223 (by decide) ?_
                            exact ih4 (nz + 1) kk (va_up (va_up (va_up J 31 (F 25 k)) 32 (F 26 k)) 33 to) ⟨(mB_i (mB_i (mB_i hBJ 31 (by omega) (by omega)) 32 (by omega) (by omega)) 33 (by omega) (by omega)), (mfr.upI (mfr.upI (mfr.upI hfJ (by decide) _) (by decide) _) (by decide) _), by simp [mFd, va_up] at hfdJ ⊢; omega, by omega, by omega⟩ (by omega) _ _ hP hD hS ls (lv_sub hl [7, 0, 8, 9] rfl)
            · skip
              have hgkk := hgt kk (by omega) (by omega)
              refine lv_aload_n hx hb dX6_locate_47 rfl (lv_at hl 6 rfl) ?_
              refine va_get (D := (dC, dI)) (ci := 6) (v := .ref (ma 25)) (C := RX6) (T := TX6) (N := 44) hx hb hts kt_X6 hown hK hP 0 rfl rfl 25 (by decide) (kx_word hG kq_08_mgather_1 rfl) (fun _ h9 => h9) rfl dX6_locate_48 ?_
              refine lv_iload_n hx hb dX6_locate_51 rfl (lv_at hl 4 rfl) ?_
              refine ki_iald (F := F 25) hx hb hK hP 20 19 rfl rfl (by omega) (by omega) (by decide) dX6_locate_52 ?_
              have hbd_24 := hBJ.2 25 kk
              refine lv_iload hx hb dX6_locate_53 (lv_at hl 3 rfl) ?_
              refine ki_icmp_ne (tgt := 122) hx hb dX6_locate_55 (by decide) (by omega) (by omega) (by omega) (by omega) (fun c_25 => ?_) (fun c_25 => ?_)
              · skip
                refine lv_iload hx hb dX6_locate_122 (lv_at hl 0 rfl) ?_
                refine ki_if_ne (tgt := 136) hx hb dX6_locate_124 (by decide) (by omega) (by omega) (fun c_26 => ?_) (fun c_26 => ?_)
                · skip
                  refine lv_iconst (v := iz 1) hx hb dX6_locate_136 (by decide) ?_
                  refine lv_goto (tgt := 141) hx hb dX6_locate_137 (by decide) ?_
                  refine lv_istore (lv' := [(8, .int (iz 1)), (7, .int (iz rg)), (6, .int (iz to)), (5, .int (iz (F 26 k))), (4, .int (iz (F 25 k))), (3, .int (iz kk)), (2, .int (iz nz)), (0, .ref mo), (1, .int (iz ask))]) hx hb dX6_locate_141 hl (by decide) rfl (fun ls hl => ?_)
                  refine lv_iload hx hb dX6_locate_143 (lv_at hl 0 rfl) ?_
                  refine ki_if_eq (tgt := 152) hx hb dX6_locate_145 (by decide) (by omega) (by omega) (fun c_27 => ?_) (fun c_27 => ?_)
                  · omega
                  · skip
                    refine lv_iconst (v := iz 1) hx hb dX6_locate_148 (by decide) ?_
                    refine lv_goto (tgt := 159) hx hb dX6_locate_149 (by decide) ?_
                    refine lv_istore (lv' := [(9, .int (iz 1)), (8, .int (iz 1)), (7, .int (iz rg)), (6, .int (iz to)), (5, .int (iz (F 26 k))), (4, .int (iz (F 25 k))), (3, .int (iz kk)), (2, .int (iz nz)), (0, .ref mo), (1, .int (iz ask))]) hx hb dX6_locate_159 hl (by decide) rfl (fun ls hl => ?_)
                    refine lv_iload_n hx hb dX6_locate_161 rfl (lv_at hl 9 rfl) ?_
                    refine lv_iload_n hx hb dX6_locate_162 rfl (lv_at hl 7 rfl) ?_
                    refine ki_icmp_lt (tgt := 218) hx hb dX6_locate_163 (by decide) (by omega) (by omega) (by omega) (by omega) (fun c_28 => ?_) (fun c_28 => ?_)
                    · skip
                      refine lv_iload_n hx hb dX6_locate_218 rfl (lv_at hl 7 rfl) ?_
                      refine lv_iload hx hb dX6_locate_219 (lv_at hl 0 rfl) ?_
                      refine ki_iadd hx hb dX6_locate_221 ?_
                      refine lv_istore_n (lv' := [(2, .int (iz (nz + 1))), (9, .int (iz 1)), (8, .int (iz 1)), (7, .int (iz rg)), (6, .int (iz to)), (5, .int (iz (F 26 k))), (4, .int (iz (F 25 k))), (3, .int (iz kk)), (0, .ref mo), (1, .int (iz ask))]) hx hb dX6_locate_222 rfl hl (by decide) rfl (fun ls hl => ?_)
                      refine lv_goto (tgt := 4) hx hb dX6_locate_223 (by decide) ?_
                      exact ih4 (nz + 1) kk J ⟨hBJ, hfJ, by simp [mFd, va_up] at hfdJ ⊢; omega, by omega, by omega⟩ (by omega) _ _ hP hD hS ls (lv_sub hl [7, 0, 8, 9] rfl)
                    · skip
                      refine lv_iload_n hx hb dX6_locate_166 rfl (lv_at hl 9 rfl) ?_
                      refine lv_iload_n hx hb dX6_locate_167 rfl (lv_at hl 7 rfl) ?_
                      refine lv_iload hx hb dX6_locate_168 (lv_at hl 0 rfl) ?_
                      refine ki_iadd hx hb dX6_locate_170 ?_
                      refine ki_icmp_ge (tgt := 218) hx hb dX6_locate_171 (by decide) (by omega) (by omega) (by omega) (by omega) (fun c_29 => ?_) (fun c_29 => ?_)
                      · skip
                        refine lv_iload_n hx hb dX6_locate_218 rfl (lv_at hl 7 rfl) ?_
                        refine lv_iload hx hb dX6_locate_219 (lv_at hl 0 rfl) ?_
                        refine ki_iadd hx hb dX6_locate_221 ?_
                        refine lv_istore_n (lv' := [(2, .int (iz (nz + 1))), (9, .int (iz 1)), (8, .int (iz 1)), (7, .int (iz rg)), (6, .int (iz to)), (5, .int (iz (F 26 k))), (4, .int (iz (F 25 k))), (3, .int (iz kk)), (0, .ref mo), (1, .int (iz ask))]) hx hb dX6_locate_222 rfl hl (by decide) rfl (fun ls hl => ?_)
                        refine lv_goto (tgt := 4) hx hb dX6_locate_223 (by decide) ?_
                        exact ih4 (nz + 1) kk J ⟨hBJ, hfJ, by simp [mFd, va_up] at hfdJ ⊢; omega, by omega, by omega⟩ (by omega) _ _ hP hD hS ls (lv_sub hl [7, 0, 8, 9] rfl)
                      · skip
                        refine lv_aload_n hx hb dX6_locate_174 rfl (lv_at hl 8 rfl) ?_
                        refine lv_iload hx hb dX6_locate_175 (lv_at hl 5 rfl) ?_
                        refine va_put (D := (dC, dI)) (ci := 6) (v := .int (iz (F 25 k))) (ty := .int) (C := RX6) (T := TX6) (N := 44) hx hb hts kt_X6 tyX6 tyX6_ok nmX6 hown hK hP hD hS 0 rfl rfl 31 (by decide) (kx_word hG kq_09_mput_0 rfl) (fun _ h9 => h9) rfl (by decide +kernel) rfl rfl (Nat.le_of_ble_eq_true rfl) dX6_locate_177 (fun H locs hP hD hS => ?_)
                        have hP : va_P (dC, dI) kxCl (mW mo ma cs (va_up J 31 (F 25 k)) F) H := hP
                        have hD : va_D A (mW mo ma cs (va_up J 31 (F 25 k)) F) := hD
                        refine lv_aload_n hx hb dX6_locate_180 rfl (lv_at hl 8 rfl) ?_
                        refine lv_iload hx hb dX6_locate_181 (lv_at hl 1 rfl) ?_
                        refine ki_if_eq (tgt := 191) hx hb dX6_locate_183 (by decide) (by omega) (by omega) (fun c_30 => ?_) (fun c_30 => ?_)
                        · omega
                        · skip
                          refine lv_iload hx hb dX6_locate_186 (lv_at hl 4 rfl) ?_
                          refine lv_goto (tgt := 197) hx hb dX6_locate_188 (by decide) ?_
                          refine va_put (D := (dC, dI)) (ci := 6) (v := .int (iz (F 26 k))) (ty := .int) (C := RX6) (T := TX6) (N := 44) hx hb hts kt_X6 tyX6 tyX6_ok nmX6 hown hK hP hD hS 0 rfl rfl 32 (by decide) (kx_word hG kq_09_mput_1 rfl) (fun _ h9 => h9) rfl (by decide +kernel) rfl rfl (Nat.le_of_ble_eq_true rfl) dX6_locate_197 (fun H locs hP hD hS => ?_)
                          have hP : va_P (dC, dI) kxCl (mW mo ma cs (va_up (va_up J 31 (F 25 k)) 32 (F 26 k)) F) H := hP
                          have hD : va_D A (mW mo ma cs (va_up (va_up J 31 (F 25 k)) 32 (F 26 k)) F) := hD
                          refine lv_aload_n hx hb dX6_locate_200 rfl (lv_at hl 8 rfl) ?_
                          refine lv_iload hx hb dX6_locate_201 (lv_at hl 1 rfl) ?_
                          refine ki_if_eq (tgt := 211) hx hb dX6_locate_203 (by decide) (by omega) (by omega) (fun c_31 => ?_) (fun c_31 => ?_)
                          · omega
                          · skip
                            refine lv_iload hx hb dX6_locate_206 (lv_at hl 3 rfl) ?_
                            refine lv_goto (tgt := 215) hx hb dX6_locate_208 (by decide) ?_
                            refine va_put (D := (dC, dI)) (ci := 6) (v := .int (iz to)) (ty := .int) (C := RX6) (T := TX6) (N := 44) hx hb hts kt_X6 tyX6 tyX6_ok nmX6 hown hK hP hD hS 0 rfl rfl 33 (by decide) (kx_word hG kq_09_mput_2 rfl) (fun _ h9 => h9) rfl (by decide +kernel) rfl rfl (Nat.le_of_ble_eq_true rfl) dX6_locate_215 (fun H locs hP hD hS => ?_)
                            have hP : va_P (dC, dI) kxCl (mW mo ma cs (va_up (va_up (va_up J 31 (F 25 k)) 32 (F 26 k)) 33 to) F) H := hP
                            have hD : va_D A (mW mo ma cs (va_up (va_up (va_up J 31 (F 25 k)) 32 (F 26 k)) 33 to) F) := hD
                            refine lv_iload_n hx hb dX6_locate_218 rfl (lv_at hl 7 rfl) ?_
                            refine lv_iload hx hb dX6_locate_219 (lv_at hl 0 rfl) ?_
                            refine ki_iadd hx hb dX6_locate_221 ?_
                            refine lv_istore_n (lv' := [(2, .int (iz (nz + 1))), (9, .int (iz 1)), (8, .int (iz 1)), (7, .int (iz rg)), (6, .int (iz to)), (5, .int (iz (F 26 k))), (4, .int (iz (F 25 k))), (3, .int (iz kk)), (0, .ref mo), (1, .int (iz ask))]) hx hb dX6_locate_222 rfl hl (by decide) rfl (fun ls hl => ?_)
                            refine lv_goto (tgt := 4) hx hb dX6_locate_223 (by decide) ?_
                            exact ih4 (nz + 1) kk (va_up (va_up (va_up J 31 (F 25 k)) 32 (F 26 k)) 33 to) ⟨(mB_i (mB_i (mB_i hBJ 31 (by omega) (by omega)) 32 (by omega) (by omega)) 33 (by omega) (by omega)), (mfr.upI (mfr.upI (mfr.upI hfJ (by decide) _) (by decide) _) (by decide) _), by simp [mFd, va_up] at hfdJ ⊢; omega, by omega, by omega⟩ (by omega) _ _ hP hD hS ls (lv_sub hl [7, 0, 8, 9] rfl)
                · skip
                  refine lv_iload hx hb dX6_locate_127 (lv_at hl 1 rfl) ?_
                  refine lv_iload hx hb dX6_locate_129 (lv_at hl 2 rfl) ?_
                  refine ki_isub hx hb dX6_locate_131 ?_
                  refine lv_iconst (v := iz 1) hx hb dX6_locate_132 (by decide) ?_
                  refine ki_icmp_le (tgt := 140) hx hb dX6_locate_133 (by decide) (by omega) (by omega) (by omega) (by omega) (fun c_32 => ?_) (fun c_32 => ?_)
                  · skip
                    refine lv_iconst (v := iz 0) hx hb dX6_locate_140 (by decide) ?_
                    refine lv_istore (lv' := [(8, .int (iz 0)), (7, .int (iz rg)), (6, .int (iz to)), (5, .int (iz (F 26 k))), (4, .int (iz (F 25 k))), (3, .int (iz kk)), (2, .int (iz nz)), (0, .ref mo), (1, .int (iz ask))]) hx hb dX6_locate_141 hl (by decide) rfl (fun ls hl => ?_)
                    refine lv_iload hx hb dX6_locate_143 (lv_at hl 0 rfl) ?_
                    refine ki_if_eq (tgt := 152) hx hb dX6_locate_145 (by decide) (by omega) (by omega) (fun c_33 => ?_) (fun c_33 => ?_)
                    · skip
                      refine lv_iload hx hb dX6_locate_152 (lv_at hl 2 rfl) ?_
                      refine lv_iload hx hb dX6_locate_154 (lv_at hl 3 rfl) ?_
                      refine ki_isub hx hb dX6_locate_156 ?_
                      refine lv_iconst (v := iz 1) hx hb dX6_locate_157 (by decide) ?_
                      refine ki_iadd hx hb dX6_locate_158 ?_
                      refine lv_istore (lv' := [(9, .int (iz ((to - (F 26 k)) + 1))), (8, .int (iz 0)), (7, .int (iz rg)), (6, .int (iz to)), (5, .int (iz (F 26 k))), (4, .int (iz (F 25 k))), (3, .int (iz kk)), (2, .int (iz nz)), (0, .ref mo), (1, .int (iz ask))]) hx hb dX6_locate_159 hl (by decide) rfl (fun ls hl => ?_)
                      refine lv_iload_n hx hb dX6_locate_161 rfl (lv_at hl 9 rfl) ?_
                      refine lv_iload_n hx hb dX6_locate_162 rfl (lv_at hl 7 rfl) ?_
                      refine ki_icmp_lt (tgt := 218) hx hb dX6_locate_163 (by decide) (by omega) (by omega) (by omega) (by omega) (fun c_34 => ?_) (fun c_34 => ?_)
                      · skip
                        refine lv_iload_n hx hb dX6_locate_218 rfl (lv_at hl 7 rfl) ?_
                        refine lv_iload hx hb dX6_locate_219 (lv_at hl 0 rfl) ?_
                        refine ki_iadd hx hb dX6_locate_221 ?_
                        refine lv_istore_n (lv' := [(2, .int (iz (nz + ((to - (F 26 k)) + 1)))), (9, .int (iz ((to - (F 26 k)) + 1))), (8, .int (iz 0)), (7, .int (iz rg)), (6, .int (iz to)), (5, .int (iz (F 26 k))), (4, .int (iz (F 25 k))), (3, .int (iz kk)), (0, .ref mo), (1, .int (iz ask))]) hx hb dX6_locate_222 rfl hl (by decide) rfl (fun ls hl => ?_)
                        refine lv_goto (tgt := 4) hx hb dX6_locate_223 (by decide) ?_
                        exact ih4 (nz + ((to - (F 26 k)) + 1)) kk J ⟨hBJ, hfJ, by simp [mFd, va_up] at hfdJ ⊢; omega, by omega, by omega⟩ (by omega) _ _ hP hD hS ls (lv_sub hl [7, 0, 8, 9] rfl)
                      · skip
                        refine lv_iload_n hx hb dX6_locate_166 rfl (lv_at hl 9 rfl) ?_
                        refine lv_iload_n hx hb dX6_locate_167 rfl (lv_at hl 7 rfl) ?_
                        refine lv_iload hx hb dX6_locate_168 (lv_at hl 0 rfl) ?_
                        refine ki_iadd hx hb dX6_locate_170 ?_
                        refine ki_icmp_ge (tgt := 218) hx hb dX6_locate_171 (by decide) (by omega) (by omega) (by omega) (by omega) (fun c_35 => ?_) (fun c_35 => ?_)
                        · skip
                          refine lv_iload_n hx hb dX6_locate_218 rfl (lv_at hl 7 rfl) ?_
                          refine lv_iload hx hb dX6_locate_219 (lv_at hl 0 rfl) ?_
                          refine ki_iadd hx hb dX6_locate_221 ?_
                          refine lv_istore_n (lv' := [(2, .int (iz (nz + ((to - (F 26 k)) + 1)))), (9, .int (iz ((to - (F 26 k)) + 1))), (8, .int (iz 0)), (7, .int (iz rg)), (6, .int (iz to)), (5, .int (iz (F 26 k))), (4, .int (iz (F 25 k))), (3, .int (iz kk)), (0, .ref mo), (1, .int (iz ask))]) hx hb dX6_locate_222 rfl hl (by decide) rfl (fun ls hl => ?_)
                          refine lv_goto (tgt := 4) hx hb dX6_locate_223 (by decide) ?_
                          exact ih4 (nz + ((to - (F 26 k)) + 1)) kk J ⟨hBJ, hfJ, by simp [mFd, va_up] at hfdJ ⊢; omega, by omega, by omega⟩ (by omega) _ _ hP hD hS ls (lv_sub hl [7, 0, 8, 9] rfl)
                        · skip
                          refine lv_aload_n hx hb dX6_locate_174 rfl (lv_at hl 8 rfl) ?_
                          refine lv_iload hx hb dX6_locate_175 (lv_at hl 5 rfl) ?_
                          refine va_put (D := (dC, dI)) (ci := 6) (v := .int (iz (F 25 k))) (ty := .int) (C := RX6) (T := TX6) (N := 44) hx hb hts kt_X6 tyX6 tyX6_ok nmX6 hown hK hP hD hS 0 rfl rfl 31 (by decide) (kx_word hG kq_09_mput_0 rfl) (fun _ h9 => h9) rfl (by decide +kernel) rfl rfl (Nat.le_of_ble_eq_true rfl) dX6_locate_177 (fun H locs hP hD hS => ?_)
                          have hP : va_P (dC, dI) kxCl (mW mo ma cs (va_up J 31 (F 25 k)) F) H := hP
                          have hD : va_D A (mW mo ma cs (va_up J 31 (F 25 k)) F) := hD
                          refine lv_aload_n hx hb dX6_locate_180 rfl (lv_at hl 8 rfl) ?_
                          refine lv_iload hx hb dX6_locate_181 (lv_at hl 1 rfl) ?_
                          refine ki_if_eq (tgt := 191) hx hb dX6_locate_183 (by decide) (by omega) (by omega) (fun c_36 => ?_) (fun c_36 => ?_)
                          · skip
                            refine lv_iload hx hb dX6_locate_191 (lv_at hl 4 rfl) ?_
                            refine lv_iload_n hx hb dX6_locate_193 rfl (lv_at hl 9 rfl) ?_
                            refine ki_iadd hx hb dX6_locate_194 ?_
                            refine lv_iload_n hx hb dX6_locate_195 rfl (lv_at hl 7 rfl) ?_
                            refine ki_isub hx hb dX6_locate_196 ?_
                            refine va_put (D := (dC, dI)) (ci := 6) (v := .int (iz (((F 26 k) + ask) - nz))) (ty := .int) (C := RX6) (T := TX6) (N := 44) hx hb hts kt_X6 tyX6 tyX6_ok nmX6 hown hK hP hD hS 0 rfl rfl 32 (by decide) (kx_word hG kq_09_mput_1 rfl) (fun _ h9 => h9) rfl (by decide +kernel) rfl rfl (Nat.le_of_ble_eq_true rfl) dX6_locate_197 (fun H locs hP hD hS => ?_)
                            have hP : va_P (dC, dI) kxCl (mW mo ma cs (va_up (va_up J 31 (F 25 k)) 32 (((F 26 k) + ask) - nz)) F) H := hP
                            have hD : va_D A (mW mo ma cs (va_up (va_up J 31 (F 25 k)) 32 (((F 26 k) + ask) - nz)) F) := hD
                            refine lv_aload_n hx hb dX6_locate_200 rfl (lv_at hl 8 rfl) ?_
                            refine lv_iload hx hb dX6_locate_201 (lv_at hl 1 rfl) ?_
                            refine ki_if_eq (tgt := 211) hx hb dX6_locate_203 (by decide) (by omega) (by omega) (fun c_37 => ?_) (fun c_37 => ?_)
                            · skip
                              refine lv_aload_n hx hb dX6_locate_211 rfl (lv_at hl 8 rfl) ?_
                              refine va_get (D := (dC, dI)) (ci := 6) (v := .int (iz (((F 26 k) + ask) - nz))) (C := RX6) (T := TX6) (N := 44) hx hb hts kt_X6 hown hK hP 0 rfl rfl 32 (by decide) (kx_word hG kq_09_mput_1 rfl) (fun _ h9 => h9) rfl dX6_locate_212 ?_
                              refine va_put (D := (dC, dI)) (ci := 6) (v := .int (iz (((F 26 k) + ask) - nz))) (ty := .int) (C := RX6) (T := TX6) (N := 44) hx hb hts kt_X6 tyX6 tyX6_ok nmX6 hown hK hP hD hS 0 rfl rfl 33 (by decide) (kx_word hG kq_09_mput_2 rfl) (fun _ h9 => h9) rfl (by decide +kernel) rfl rfl (Nat.le_of_ble_eq_true rfl) dX6_locate_215 (fun H locs hP hD hS => ?_)
                              have hP : va_P (dC, dI) kxCl (mW mo ma cs (va_up (va_up (va_up J 31 (F 25 k)) 32 (((F 26 k) + ask) - nz)) 33 (((F 26 k) + ask) - nz)) F) H := hP
                              have hD : va_D A (mW mo ma cs (va_up (va_up (va_up J 31 (F 25 k)) 32 (((F 26 k) + ask) - nz)) 33 (((F 26 k) + ask) - nz)) F) := hD
                              refine lv_iload_n hx hb dX6_locate_218 rfl (lv_at hl 7 rfl) ?_
                              refine lv_iload hx hb dX6_locate_219 (lv_at hl 0 rfl) ?_
                              refine ki_iadd hx hb dX6_locate_221 ?_
                              refine lv_istore_n (lv' := [(2, .int (iz (nz + ((to - (F 26 k)) + 1)))), (9, .int (iz ((to - (F 26 k)) + 1))), (8, .int (iz 0)), (7, .int (iz rg)), (6, .int (iz to)), (5, .int (iz (F 26 k))), (4, .int (iz (F 25 k))), (3, .int (iz kk)), (0, .ref mo), (1, .int (iz ask))]) hx hb dX6_locate_222 rfl hl (by decide) rfl (fun ls hl => ?_)
                              refine lv_goto (tgt := 4) hx hb dX6_locate_223 (by decide) ?_
                              exact ih4 (nz + ((to - (F 26 k)) + 1)) kk (va_up (va_up (va_up J 31 (F 25 k)) 32 (((F 26 k) + ask) - nz)) 33 (((F 26 k) + ask) - nz)) ⟨(mB_i (mB_i (mB_i hBJ 31 (by omega) (by omega)) 32 (by omega) (by omega)) 33 (by omega) (by omega)), (mfr.upI (mfr.upI (mfr.upI hfJ (by decide) _) (by decide) _) (by decide) _), by simp [mFd, va_up] at hfdJ ⊢; omega, by omega, by omega⟩ (by omega) _ _ hP hD hS ls (lv_sub hl [7, 0, 8, 9] rfl)
                            · omega
                          · omega
                    · omega
                  · skip
                    refine lv_iconst (v := iz 1) hx hb dX6_locate_136 (by decide) ?_
                    refine lv_goto (tgt := 141) hx hb dX6_locate_137 (by decide) ?_
                    refine lv_istore (lv' := [(8, .int (iz 1)), (7, .int (iz rg)), (6, .int (iz to)), (5, .int (iz (F 26 k))), (4, .int (iz (F 25 k))), (3, .int (iz kk)), (2, .int (iz nz)), (0, .ref mo), (1, .int (iz ask))]) hx hb dX6_locate_141 hl (by decide) rfl (fun ls hl => ?_)
                    refine lv_iload hx hb dX6_locate_143 (lv_at hl 0 rfl) ?_
                    refine ki_if_eq (tgt := 152) hx hb dX6_locate_145 (by decide) (by omega) (by omega) (fun c_38 => ?_) (fun c_38 => ?_)
                    · omega
                    · skip
                      refine lv_iconst (v := iz 1) hx hb dX6_locate_148 (by decide) ?_
                      refine lv_goto (tgt := 159) hx hb dX6_locate_149 (by decide) ?_
                      refine lv_istore (lv' := [(9, .int (iz 1)), (8, .int (iz 1)), (7, .int (iz rg)), (6, .int (iz to)), (5, .int (iz (F 26 k))), (4, .int (iz (F 25 k))), (3, .int (iz kk)), (2, .int (iz nz)), (0, .ref mo), (1, .int (iz ask))]) hx hb dX6_locate_159 hl (by decide) rfl (fun ls hl => ?_)
                      refine lv_iload_n hx hb dX6_locate_161 rfl (lv_at hl 9 rfl) ?_
                      refine lv_iload_n hx hb dX6_locate_162 rfl (lv_at hl 7 rfl) ?_
                      refine ki_icmp_lt (tgt := 218) hx hb dX6_locate_163 (by decide) (by omega) (by omega) (by omega) (by omega) (fun c_39 => ?_) (fun c_39 => ?_)
                      · skip
                        refine lv_iload_n hx hb dX6_locate_218 rfl (lv_at hl 7 rfl) ?_
                        refine lv_iload hx hb dX6_locate_219 (lv_at hl 0 rfl) ?_
                        refine ki_iadd hx hb dX6_locate_221 ?_
                        refine lv_istore_n (lv' := [(2, .int (iz (nz + 1))), (9, .int (iz 1)), (8, .int (iz 1)), (7, .int (iz rg)), (6, .int (iz to)), (5, .int (iz (F 26 k))), (4, .int (iz (F 25 k))), (3, .int (iz kk)), (0, .ref mo), (1, .int (iz ask))]) hx hb dX6_locate_222 rfl hl (by decide) rfl (fun ls hl => ?_)
                        refine lv_goto (tgt := 4) hx hb dX6_locate_223 (by decide) ?_
                        exact ih4 (nz + 1) kk J ⟨hBJ, hfJ, by simp [mFd, va_up] at hfdJ ⊢; omega, by omega, by omega⟩ (by omega) _ _ hP hD hS ls (lv_sub hl [7, 0, 8, 9] rfl)
                      · skip
                        refine lv_iload_n hx hb dX6_locate_166 rfl (lv_at hl 9 rfl) ?_
                        refine lv_iload_n hx hb dX6_locate_167 rfl (lv_at hl 7 rfl) ?_
                        refine lv_iload hx hb dX6_locate_168 (lv_at hl 0 rfl) ?_
                        refine ki_iadd hx hb dX6_locate_170 ?_
                        refine ki_icmp_ge (tgt := 218) hx hb dX6_locate_171 (by decide) (by omega) (by omega) (by omega) (by omega) (fun c_40 => ?_) (fun c_40 => ?_)
                        · skip
                          refine lv_iload_n hx hb dX6_locate_218 rfl (lv_at hl 7 rfl) ?_
                          refine lv_iload hx hb dX6_locate_219 (lv_at hl 0 rfl) ?_
                          refine ki_iadd hx hb dX6_locate_221 ?_
                          refine lv_istore_n (lv' := [(2, .int (iz (nz + 1))), (9, .int (iz 1)), (8, .int (iz 1)), (7, .int (iz rg)), (6, .int (iz to)), (5, .int (iz (F 26 k))), (4, .int (iz (F 25 k))), (3, .int (iz kk)), (0, .ref mo), (1, .int (iz ask))]) hx hb dX6_locate_222 rfl hl (by decide) rfl (fun ls hl => ?_)
                          refine lv_goto (tgt := 4) hx hb dX6_locate_223 (by decide) ?_
                          exact ih4 (nz + 1) kk J ⟨hBJ, hfJ, by simp [mFd, va_up] at hfdJ ⊢; omega, by omega, by omega⟩ (by omega) _ _ hP hD hS ls (lv_sub hl [7, 0, 8, 9] rfl)
                        · skip
                          refine lv_aload_n hx hb dX6_locate_174 rfl (lv_at hl 8 rfl) ?_
                          refine lv_iload hx hb dX6_locate_175 (lv_at hl 5 rfl) ?_
                          refine va_put (D := (dC, dI)) (ci := 6) (v := .int (iz (F 25 k))) (ty := .int) (C := RX6) (T := TX6) (N := 44) hx hb hts kt_X6 tyX6 tyX6_ok nmX6 hown hK hP hD hS 0 rfl rfl 31 (by decide) (kx_word hG kq_09_mput_0 rfl) (fun _ h9 => h9) rfl (by decide +kernel) rfl rfl (Nat.le_of_ble_eq_true rfl) dX6_locate_177 (fun H locs hP hD hS => ?_)
                          have hP : va_P (dC, dI) kxCl (mW mo ma cs (va_up J 31 (F 25 k)) F) H := hP
                          have hD : va_D A (mW mo ma cs (va_up J 31 (F 25 k)) F) := hD
                          refine lv_aload_n hx hb dX6_locate_180 rfl (lv_at hl 8 rfl) ?_
                          refine lv_iload hx hb dX6_locate_181 (lv_at hl 1 rfl) ?_
                          refine ki_if_eq (tgt := 191) hx hb dX6_locate_183 (by decide) (by omega) (by omega) (fun c_41 => ?_) (fun c_41 => ?_)
                          · omega
                          · skip
                            refine lv_iload hx hb dX6_locate_186 (lv_at hl 4 rfl) ?_
                            refine lv_goto (tgt := 197) hx hb dX6_locate_188 (by decide) ?_
                            refine va_put (D := (dC, dI)) (ci := 6) (v := .int (iz (F 26 k))) (ty := .int) (C := RX6) (T := TX6) (N := 44) hx hb hts kt_X6 tyX6 tyX6_ok nmX6 hown hK hP hD hS 0 rfl rfl 32 (by decide) (kx_word hG kq_09_mput_1 rfl) (fun _ h9 => h9) rfl (by decide +kernel) rfl rfl (Nat.le_of_ble_eq_true rfl) dX6_locate_197 (fun H locs hP hD hS => ?_)
                            have hP : va_P (dC, dI) kxCl (mW mo ma cs (va_up (va_up J 31 (F 25 k)) 32 (F 26 k)) F) H := hP
                            have hD : va_D A (mW mo ma cs (va_up (va_up J 31 (F 25 k)) 32 (F 26 k)) F) := hD
                            refine lv_aload_n hx hb dX6_locate_200 rfl (lv_at hl 8 rfl) ?_
                            refine lv_iload hx hb dX6_locate_201 (lv_at hl 1 rfl) ?_
                            refine ki_if_eq (tgt := 211) hx hb dX6_locate_203 (by decide) (by omega) (by omega) (fun c_42 => ?_) (fun c_42 => ?_)
                            · omega
                            · skip
                              refine lv_iload hx hb dX6_locate_206 (lv_at hl 3 rfl) ?_
                              refine lv_goto (tgt := 215) hx hb dX6_locate_208 (by decide) ?_
                              refine va_put (D := (dC, dI)) (ci := 6) (v := .int (iz to)) (ty := .int) (C := RX6) (T := TX6) (N := 44) hx hb hts kt_X6 tyX6 tyX6_ok nmX6 hown hK hP hD hS 0 rfl rfl 33 (by decide) (kx_word hG kq_09_mput_2 rfl) (fun _ h9 => h9) rfl (by decide +kernel) rfl rfl (Nat.le_of_ble_eq_true rfl) dX6_locate_215 (fun H locs hP hD hS => ?_)
                              have hP : va_P (dC, dI) kxCl (mW mo ma cs (va_up (va_up (va_up J 31 (F 25 k)) 32 (F 26 k)) 33 to) F) H := hP
                              have hD : va_D A (mW mo ma cs (va_up (va_up (va_up J 31 (F 25 k)) 32 (F 26 k)) 33 to) F) := hD
                              refine lv_iload_n hx hb dX6_locate_218 rfl (lv_at hl 7 rfl) ?_
                              refine lv_iload hx hb dX6_locate_219 (lv_at hl 0 rfl) ?_
                              refine ki_iadd hx hb dX6_locate_221 ?_
                              refine lv_istore_n (lv' := [(2, .int (iz (nz + 1))), (9, .int (iz 1)), (8, .int (iz 1)), (7, .int (iz rg)), (6, .int (iz to)), (5, .int (iz (F 26 k))), (4, .int (iz (F 25 k))), (3, .int (iz kk)), (0, .ref mo), (1, .int (iz ask))]) hx hb dX6_locate_222 rfl hl (by decide) rfl (fun ls hl => ?_)
                              refine lv_goto (tgt := 4) hx hb dX6_locate_223 (by decide) ?_
                              exact ih4 (nz + 1) kk (va_up (va_up (va_up J 31 (F 25 k)) 32 (F 26 k)) 33 to) ⟨(mB_i (mB_i (mB_i hBJ 31 (by omega) (by omega)) 32 (by omega) (by omega)) 33 (by omega) (by omega)), (mfr.upI (mfr.upI (mfr.upI hfJ (by decide) _) (by decide) _) (by decide) _), by simp [mFd, va_up] at hfdJ ⊢; omega, by omega, by omega⟩ (by omega) _ _ hP hD hS ls (lv_sub hl [7, 0, 8, 9] rfl)
              · skip
                refine lv_aload_n hx hb dX6_locate_58 rfl (lv_at hl 6 rfl) ?_
                refine va_get (D := (dC, dI)) (ci := 6) (v := .ref (ma 26)) (C := RX6) (T := TX6) (N := 44) hx hb hts kt_X6 hown hK hP 0 rfl rfl 26 (by decide) (kx_word hG kq_08_mgather_2 rfl) (fun _ h9 => h9) rfl dX6_locate_59 ?_
                refine lv_iload_n hx hb dX6_locate_62 rfl (lv_at hl 4 rfl) ?_
                refine ki_iald (F := F 26) hx hb hK hP 21 20 rfl rfl (by omega) (by omega) (by decide) dX6_locate_63 ?_
                have hbd_43 := hBJ.2 26 kk
                refine lv_iload hx hb dX6_locate_64 (lv_at hl 1 rfl) ?_
                refine lv_iconst (v := iz 1) hx hb dX6_locate_66 (by decide) ?_
                refine ki_iadd hx hb dX6_locate_67 ?_
                refine ki_icmp_gt (tgt := 122) hx hb dX6_locate_68 (by decide) (by omega) (by omega) (by omega) (by omega) (fun c_44 => ?_) (fun c_44 => ?_)
                · skip
                  refine lv_iload hx hb dX6_locate_122 (lv_at hl 0 rfl) ?_
                  refine ki_if_ne (tgt := 136) hx hb dX6_locate_124 (by decide) (by omega) (by omega) (fun c_45 => ?_) (fun c_45 => ?_)
                  · skip
                    refine lv_iconst (v := iz 1) hx hb dX6_locate_136 (by decide) ?_
                    refine lv_goto (tgt := 141) hx hb dX6_locate_137 (by decide) ?_
                    refine lv_istore (lv' := [(8, .int (iz 1)), (7, .int (iz rg)), (6, .int (iz to)), (5, .int (iz (F 26 k))), (4, .int (iz (F 25 k))), (3, .int (iz kk)), (2, .int (iz nz)), (0, .ref mo), (1, .int (iz ask))]) hx hb dX6_locate_141 hl (by decide) rfl (fun ls hl => ?_)
                    refine lv_iload hx hb dX6_locate_143 (lv_at hl 0 rfl) ?_
                    refine ki_if_eq (tgt := 152) hx hb dX6_locate_145 (by decide) (by omega) (by omega) (fun c_46 => ?_) (fun c_46 => ?_)
                    · omega
                    · skip
                      refine lv_iconst (v := iz 1) hx hb dX6_locate_148 (by decide) ?_
                      refine lv_goto (tgt := 159) hx hb dX6_locate_149 (by decide) ?_
                      refine lv_istore (lv' := [(9, .int (iz 1)), (8, .int (iz 1)), (7, .int (iz rg)), (6, .int (iz to)), (5, .int (iz (F 26 k))), (4, .int (iz (F 25 k))), (3, .int (iz kk)), (2, .int (iz nz)), (0, .ref mo), (1, .int (iz ask))]) hx hb dX6_locate_159 hl (by decide) rfl (fun ls hl => ?_)
                      refine lv_iload_n hx hb dX6_locate_161 rfl (lv_at hl 9 rfl) ?_
                      refine lv_iload_n hx hb dX6_locate_162 rfl (lv_at hl 7 rfl) ?_
                      refine ki_icmp_lt (tgt := 218) hx hb dX6_locate_163 (by decide) (by omega) (by omega) (by omega) (by omega) (fun c_47 => ?_) (fun c_47 => ?_)
                      · skip
                        refine lv_iload_n hx hb dX6_locate_218 rfl (lv_at hl 7 rfl) ?_
                        refine lv_iload hx hb dX6_locate_219 (lv_at hl 0 rfl) ?_
                        refine ki_iadd hx hb dX6_locate_221 ?_
                        refine lv_istore_n (lv' := [(2, .int (iz (nz + 1))), (9, .int (iz 1)), (8, .int (iz 1)), (7, .int (iz rg)), (6, .int (iz to)), (5, .int (iz (F 26 k))), (4, .int (iz (F 25 k))), (3, .int (iz kk)), (0, .ref mo), (1, .int (iz ask))]) hx hb dX6_locate_222 rfl hl (by decide) rfl (fun ls hl => ?_)
                        refine lv_goto (tgt := 4) hx hb dX6_locate_223 (by decide) ?_
                        exact ih4 (nz + 1) kk J ⟨hBJ, hfJ, by simp [mFd, va_up] at hfdJ ⊢; omega, by omega, by omega⟩ (by omega) _ _ hP hD hS ls (lv_sub hl [7, 0, 8, 9] rfl)
                      · skip
                        refine lv_iload_n hx hb dX6_locate_166 rfl (lv_at hl 9 rfl) ?_
                        refine lv_iload_n hx hb dX6_locate_167 rfl (lv_at hl 7 rfl) ?_
                        refine lv_iload hx hb dX6_locate_168 (lv_at hl 0 rfl) ?_
                        refine ki_iadd hx hb dX6_locate_170 ?_
                        refine ki_icmp_ge (tgt := 218) hx hb dX6_locate_171 (by decide) (by omega) (by omega) (by omega) (by omega) (fun c_48 => ?_) (fun c_48 => ?_)
                        · skip
                          refine lv_iload_n hx hb dX6_locate_218 rfl (lv_at hl 7 rfl) ?_
                          refine lv_iload hx hb dX6_locate_219 (lv_at hl 0 rfl) ?_
                          refine ki_iadd hx hb dX6_locate_221 ?_
                          refine lv_istore_n (lv' := [(2, .int (iz (nz + 1))), (9, .int (iz 1)), (8, .int (iz 1)), (7, .int (iz rg)), (6, .int (iz to)), (5, .int (iz (F 26 k))), (4, .int (iz (F 25 k))), (3, .int (iz kk)), (0, .ref mo), (1, .int (iz ask))]) hx hb dX6_locate_222 rfl hl (by decide) rfl (fun ls hl => ?_)
                          refine lv_goto (tgt := 4) hx hb dX6_locate_223 (by decide) ?_
                          exact ih4 (nz + 1) kk J ⟨hBJ, hfJ, by simp [mFd, va_up] at hfdJ ⊢; omega, by omega, by omega⟩ (by omega) _ _ hP hD hS ls (lv_sub hl [7, 0, 8, 9] rfl)
                        · skip
                          refine lv_aload_n hx hb dX6_locate_174 rfl (lv_at hl 8 rfl) ?_
                          refine lv_iload hx hb dX6_locate_175 (lv_at hl 5 rfl) ?_
                          refine va_put (D := (dC, dI)) (ci := 6) (v := .int (iz (F 25 k))) (ty := .int) (C := RX6) (T := TX6) (N := 44) hx hb hts kt_X6 tyX6 tyX6_ok nmX6 hown hK hP hD hS 0 rfl rfl 31 (by decide) (kx_word hG kq_09_mput_0 rfl) (fun _ h9 => h9) rfl (by decide +kernel) rfl rfl (Nat.le_of_ble_eq_true rfl) dX6_locate_177 (fun H locs hP hD hS => ?_)
                          have hP : va_P (dC, dI) kxCl (mW mo ma cs (va_up J 31 (F 25 k)) F) H := hP
                          have hD : va_D A (mW mo ma cs (va_up J 31 (F 25 k)) F) := hD
                          refine lv_aload_n hx hb dX6_locate_180 rfl (lv_at hl 8 rfl) ?_
                          refine lv_iload hx hb dX6_locate_181 (lv_at hl 1 rfl) ?_
                          refine ki_if_eq (tgt := 191) hx hb dX6_locate_183 (by decide) (by omega) (by omega) (fun c_49 => ?_) (fun c_49 => ?_)
                          · omega
                          · skip
                            refine lv_iload hx hb dX6_locate_186 (lv_at hl 4 rfl) ?_
                            refine lv_goto (tgt := 197) hx hb dX6_locate_188 (by decide) ?_
                            refine va_put (D := (dC, dI)) (ci := 6) (v := .int (iz (F 26 k))) (ty := .int) (C := RX6) (T := TX6) (N := 44) hx hb hts kt_X6 tyX6 tyX6_ok nmX6 hown hK hP hD hS 0 rfl rfl 32 (by decide) (kx_word hG kq_09_mput_1 rfl) (fun _ h9 => h9) rfl (by decide +kernel) rfl rfl (Nat.le_of_ble_eq_true rfl) dX6_locate_197 (fun H locs hP hD hS => ?_)
                            have hP : va_P (dC, dI) kxCl (mW mo ma cs (va_up (va_up J 31 (F 25 k)) 32 (F 26 k)) F) H := hP
                            have hD : va_D A (mW mo ma cs (va_up (va_up J 31 (F 25 k)) 32 (F 26 k)) F) := hD
                            refine lv_aload_n hx hb dX6_locate_200 rfl (lv_at hl 8 rfl) ?_
                            refine lv_iload hx hb dX6_locate_201 (lv_at hl 1 rfl) ?_
                            refine ki_if_eq (tgt := 211) hx hb dX6_locate_203 (by decide) (by omega) (by omega) (fun c_50 => ?_) (fun c_50 => ?_)
                            · omega
                            · skip
                              refine lv_iload hx hb dX6_locate_206 (lv_at hl 3 rfl) ?_
                              refine lv_goto (tgt := 215) hx hb dX6_locate_208 (by decide) ?_
                              refine va_put (D := (dC, dI)) (ci := 6) (v := .int (iz to)) (ty := .int) (C := RX6) (T := TX6) (N := 44) hx hb hts kt_X6 tyX6 tyX6_ok nmX6 hown hK hP hD hS 0 rfl rfl 33 (by decide) (kx_word hG kq_09_mput_2 rfl) (fun _ h9 => h9) rfl (by decide +kernel) rfl rfl (Nat.le_of_ble_eq_true rfl) dX6_locate_215 (fun H locs hP hD hS => ?_)
                              have hP : va_P (dC, dI) kxCl (mW mo ma cs (va_up (va_up (va_up J 31 (F 25 k)) 32 (F 26 k)) 33 to) F) H := hP
                              have hD : va_D A (mW mo ma cs (va_up (va_up (va_up J 31 (F 25 k)) 32 (F 26 k)) 33 to) F) := hD
                              refine lv_iload_n hx hb dX6_locate_218 rfl (lv_at hl 7 rfl) ?_
                              refine lv_iload hx hb dX6_locate_219 (lv_at hl 0 rfl) ?_
                              refine ki_iadd hx hb dX6_locate_221 ?_
                              refine lv_istore_n (lv' := [(2, .int (iz (nz + 1))), (9, .int (iz 1)), (8, .int (iz 1)), (7, .int (iz rg)), (6, .int (iz to)), (5, .int (iz (F 26 k))), (4, .int (iz (F 25 k))), (3, .int (iz kk)), (0, .ref mo), (1, .int (iz ask))]) hx hb dX6_locate_222 rfl hl (by decide) rfl (fun ls hl => ?_)
                              refine lv_goto (tgt := 4) hx hb dX6_locate_223 (by decide) ?_
                              exact ih4 (nz + 1) kk (va_up (va_up (va_up J 31 (F 25 k)) 32 (F 26 k)) 33 to) ⟨(mB_i (mB_i (mB_i hBJ 31 (by omega) (by omega)) 32 (by omega) (by omega)) 33 (by omega) (by omega)), (mfr.upI (mfr.upI (mfr.upI hfJ (by decide) _) (by decide) _) (by decide) _), by simp [mFd, va_up] at hfdJ ⊢; omega, by omega, by omega⟩ (by omega) _ _ hP hD hS ls (lv_sub hl [7, 0, 8, 9] rfl)
                  · skip
                    refine lv_iload hx hb dX6_locate_127 (lv_at hl 1 rfl) ?_
                    refine lv_iload hx hb dX6_locate_129 (lv_at hl 2 rfl) ?_
                    refine ki_isub hx hb dX6_locate_131 ?_
                    refine lv_iconst (v := iz 1) hx hb dX6_locate_132 (by decide) ?_
                    refine ki_icmp_le (tgt := 140) hx hb dX6_locate_133 (by decide) (by omega) (by omega) (by omega) (by omega) (fun c_51 => ?_) (fun c_51 => ?_)
                    · skip
                      refine lv_iconst (v := iz 0) hx hb dX6_locate_140 (by decide) ?_
                      refine lv_istore (lv' := [(8, .int (iz 0)), (7, .int (iz rg)), (6, .int (iz to)), (5, .int (iz (F 26 k))), (4, .int (iz (F 25 k))), (3, .int (iz kk)), (2, .int (iz nz)), (0, .ref mo), (1, .int (iz ask))]) hx hb dX6_locate_141 hl (by decide) rfl (fun ls hl => ?_)
                      refine lv_iload hx hb dX6_locate_143 (lv_at hl 0 rfl) ?_
                      refine ki_if_eq (tgt := 152) hx hb dX6_locate_145 (by decide) (by omega) (by omega) (fun c_52 => ?_) (fun c_52 => ?_)
                      · skip
                        refine lv_iload hx hb dX6_locate_152 (lv_at hl 2 rfl) ?_
                        refine lv_iload hx hb dX6_locate_154 (lv_at hl 3 rfl) ?_
                        refine ki_isub hx hb dX6_locate_156 ?_
                        refine lv_iconst (v := iz 1) hx hb dX6_locate_157 (by decide) ?_
                        refine ki_iadd hx hb dX6_locate_158 ?_
                        refine lv_istore (lv' := [(9, .int (iz ((to - (F 26 k)) + 1))), (8, .int (iz 0)), (7, .int (iz rg)), (6, .int (iz to)), (5, .int (iz (F 26 k))), (4, .int (iz (F 25 k))), (3, .int (iz kk)), (2, .int (iz nz)), (0, .ref mo), (1, .int (iz ask))]) hx hb dX6_locate_159 hl (by decide) rfl (fun ls hl => ?_)
                        refine lv_iload_n hx hb dX6_locate_161 rfl (lv_at hl 9 rfl) ?_
                        refine lv_iload_n hx hb dX6_locate_162 rfl (lv_at hl 7 rfl) ?_
                        refine ki_icmp_lt (tgt := 218) hx hb dX6_locate_163 (by decide) (by omega) (by omega) (by omega) (by omega) (fun c_53 => ?_) (fun c_53 => ?_)
                        · skip
                          refine lv_iload_n hx hb dX6_locate_218 rfl (lv_at hl 7 rfl) ?_
                          refine lv_iload hx hb dX6_locate_219 (lv_at hl 0 rfl) ?_
                          refine ki_iadd hx hb dX6_locate_221 ?_
                          refine lv_istore_n (lv' := [(2, .int (iz (nz + ((to - (F 26 k)) + 1)))), (9, .int (iz ((to - (F 26 k)) + 1))), (8, .int (iz 0)), (7, .int (iz rg)), (6, .int (iz to)), (5, .int (iz (F 26 k))), (4, .int (iz (F 25 k))), (3, .int (iz kk)), (0, .ref mo), (1, .int (iz ask))]) hx hb dX6_locate_222 rfl hl (by decide) rfl (fun ls hl => ?_)
                          refine lv_goto (tgt := 4) hx hb dX6_locate_223 (by decide) ?_
                          exact ih4 (nz + ((to - (F 26 k)) + 1)) kk J ⟨hBJ, hfJ, by simp [mFd, va_up] at hfdJ ⊢; omega, by omega, by omega⟩ (by omega) _ _ hP hD hS ls (lv_sub hl [7, 0, 8, 9] rfl)
                        · skip
                          refine lv_iload_n hx hb dX6_locate_166 rfl (lv_at hl 9 rfl) ?_
                          refine lv_iload_n hx hb dX6_locate_167 rfl (lv_at hl 7 rfl) ?_
                          refine lv_iload hx hb dX6_locate_168 (lv_at hl 0 rfl) ?_
                          refine ki_iadd hx hb dX6_locate_170 ?_
                          refine ki_icmp_ge (tgt := 218) hx hb dX6_locate_171 (by decide) (by omega) (by omega) (by omega) (by omega) (fun c_54 => ?_) (fun c_54 => ?_)
                          · skip
                            refine lv_iload_n hx hb dX6_locate_218 rfl (lv_at hl 7 rfl) ?_
                            refine lv_iload hx hb dX6_locate_219 (lv_at hl 0 rfl) ?_
                            refine ki_iadd hx hb dX6_locate_221 ?_
                            refine lv_istore_n (lv' := [(2, .int (iz (nz + ((to - (F 26 k)) + 1)))), (9, .int (iz ((to - (F 26 k)) + 1))), (8, .int (iz 0)), (7, .int (iz rg)), (6, .int (iz to)), (5, .int (iz (F 26 k))), (4, .int (iz (F 25 k))), (3, .int (iz kk)), (0, .ref mo), (1, .int (iz ask))]) hx hb dX6_locate_222 rfl hl (by decide) rfl (fun ls hl => ?_)
                            refine lv_goto (tgt := 4) hx hb dX6_locate_223 (by decide) ?_
                            exact ih4 (nz + ((to - (F 26 k)) + 1)) kk J ⟨hBJ, hfJ, by simp [mFd, va_up] at hfdJ ⊢; omega, by omega, by omega⟩ (by omega) _ _ hP hD hS ls (lv_sub hl [7, 0, 8, 9] rfl)
                          · skip
                            refine lv_aload_n hx hb dX6_locate_174 rfl (lv_at hl 8 rfl) ?_
                            refine lv_iload hx hb dX6_locate_175 (lv_at hl 5 rfl) ?_
                            refine va_put (D := (dC, dI)) (ci := 6) (v := .int (iz (F 25 k))) (ty := .int) (C := RX6) (T := TX6) (N := 44) hx hb hts kt_X6 tyX6 tyX6_ok nmX6 hown hK hP hD hS 0 rfl rfl 31 (by decide) (kx_word hG kq_09_mput_0 rfl) (fun _ h9 => h9) rfl (by decide +kernel) rfl rfl (Nat.le_of_ble_eq_true rfl) dX6_locate_177 (fun H locs hP hD hS => ?_)
                            have hP : va_P (dC, dI) kxCl (mW mo ma cs (va_up J 31 (F 25 k)) F) H := hP
                            have hD : va_D A (mW mo ma cs (va_up J 31 (F 25 k)) F) := hD
                            refine lv_aload_n hx hb dX6_locate_180 rfl (lv_at hl 8 rfl) ?_
                            refine lv_iload hx hb dX6_locate_181 (lv_at hl 1 rfl) ?_
                            refine ki_if_eq (tgt := 191) hx hb dX6_locate_183 (by decide) (by omega) (by omega) (fun c_55 => ?_) (fun c_55 => ?_)
                            · skip
                              refine lv_iload hx hb dX6_locate_191 (lv_at hl 4 rfl) ?_
                              refine lv_iload_n hx hb dX6_locate_193 rfl (lv_at hl 9 rfl) ?_
                              refine ki_iadd hx hb dX6_locate_194 ?_
                              refine lv_iload_n hx hb dX6_locate_195 rfl (lv_at hl 7 rfl) ?_
                              refine ki_isub hx hb dX6_locate_196 ?_
                              refine va_put (D := (dC, dI)) (ci := 6) (v := .int (iz (((F 26 k) + ask) - nz))) (ty := .int) (C := RX6) (T := TX6) (N := 44) hx hb hts kt_X6 tyX6 tyX6_ok nmX6 hown hK hP hD hS 0 rfl rfl 32 (by decide) (kx_word hG kq_09_mput_1 rfl) (fun _ h9 => h9) rfl (by decide +kernel) rfl rfl (Nat.le_of_ble_eq_true rfl) dX6_locate_197 (fun H locs hP hD hS => ?_)
                              have hP : va_P (dC, dI) kxCl (mW mo ma cs (va_up (va_up J 31 (F 25 k)) 32 (((F 26 k) + ask) - nz)) F) H := hP
                              have hD : va_D A (mW mo ma cs (va_up (va_up J 31 (F 25 k)) 32 (((F 26 k) + ask) - nz)) F) := hD
                              refine lv_aload_n hx hb dX6_locate_200 rfl (lv_at hl 8 rfl) ?_
                              refine lv_iload hx hb dX6_locate_201 (lv_at hl 1 rfl) ?_
                              refine ki_if_eq (tgt := 211) hx hb dX6_locate_203 (by decide) (by omega) (by omega) (fun c_56 => ?_) (fun c_56 => ?_)
                              · skip
                                refine lv_aload_n hx hb dX6_locate_211 rfl (lv_at hl 8 rfl) ?_
                                refine va_get (D := (dC, dI)) (ci := 6) (v := .int (iz (((F 26 k) + ask) - nz))) (C := RX6) (T := TX6) (N := 44) hx hb hts kt_X6 hown hK hP 0 rfl rfl 32 (by decide) (kx_word hG kq_09_mput_1 rfl) (fun _ h9 => h9) rfl dX6_locate_212 ?_
                                refine va_put (D := (dC, dI)) (ci := 6) (v := .int (iz (((F 26 k) + ask) - nz))) (ty := .int) (C := RX6) (T := TX6) (N := 44) hx hb hts kt_X6 tyX6 tyX6_ok nmX6 hown hK hP hD hS 0 rfl rfl 33 (by decide) (kx_word hG kq_09_mput_2 rfl) (fun _ h9 => h9) rfl (by decide +kernel) rfl rfl (Nat.le_of_ble_eq_true rfl) dX6_locate_215 (fun H locs hP hD hS => ?_)
                                have hP : va_P (dC, dI) kxCl (mW mo ma cs (va_up (va_up (va_up J 31 (F 25 k)) 32 (((F 26 k) + ask) - nz)) 33 (((F 26 k) + ask) - nz)) F) H := hP
                                have hD : va_D A (mW mo ma cs (va_up (va_up (va_up J 31 (F 25 k)) 32 (((F 26 k) + ask) - nz)) 33 (((F 26 k) + ask) - nz)) F) := hD
                                refine lv_iload_n hx hb dX6_locate_218 rfl (lv_at hl 7 rfl) ?_
                                refine lv_iload hx hb dX6_locate_219 (lv_at hl 0 rfl) ?_
                                refine ki_iadd hx hb dX6_locate_221 ?_
                                refine lv_istore_n (lv' := [(2, .int (iz (nz + ((to - (F 26 k)) + 1)))), (9, .int (iz ((to - (F 26 k)) + 1))), (8, .int (iz 0)), (7, .int (iz rg)), (6, .int (iz to)), (5, .int (iz (F 26 k))), (4, .int (iz (F 25 k))), (3, .int (iz kk)), (0, .ref mo), (1, .int (iz ask))]) hx hb dX6_locate_222 rfl hl (by decide) rfl (fun ls hl => ?_)
                                refine lv_goto (tgt := 4) hx hb dX6_locate_223 (by decide) ?_
                                exact ih4 (nz + ((to - (F 26 k)) + 1)) kk (va_up (va_up (va_up J 31 (F 25 k)) 32 (((F 26 k) + ask) - nz)) 33 (((F 26 k) + ask) - nz)) ⟨(mB_i (mB_i (mB_i hBJ 31 (by omega) (by omega)) 32 (by omega) (by omega)) 33 (by omega) (by omega)), (mfr.upI (mfr.upI (mfr.upI hfJ (by decide) _) (by decide) _) (by decide) _), by simp [mFd, va_up] at hfdJ ⊢; omega, by omega, by omega⟩ (by omega) _ _ hP hD hS ls (lv_sub hl [7, 0, 8, 9] rfl)
                              · omega
                            · omega
                      · omega
                    · skip
                      refine lv_iconst (v := iz 1) hx hb dX6_locate_136 (by decide) ?_
                      refine lv_goto (tgt := 141) hx hb dX6_locate_137 (by decide) ?_
                      refine lv_istore (lv' := [(8, .int (iz 1)), (7, .int (iz rg)), (6, .int (iz to)), (5, .int (iz (F 26 k))), (4, .int (iz (F 25 k))), (3, .int (iz kk)), (2, .int (iz nz)), (0, .ref mo), (1, .int (iz ask))]) hx hb dX6_locate_141 hl (by decide) rfl (fun ls hl => ?_)
                      refine lv_iload hx hb dX6_locate_143 (lv_at hl 0 rfl) ?_
                      refine ki_if_eq (tgt := 152) hx hb dX6_locate_145 (by decide) (by omega) (by omega) (fun c_57 => ?_) (fun c_57 => ?_)
                      · omega
                      · skip
                        refine lv_iconst (v := iz 1) hx hb dX6_locate_148 (by decide) ?_
                        refine lv_goto (tgt := 159) hx hb dX6_locate_149 (by decide) ?_
                        refine lv_istore (lv' := [(9, .int (iz 1)), (8, .int (iz 1)), (7, .int (iz rg)), (6, .int (iz to)), (5, .int (iz (F 26 k))), (4, .int (iz (F 25 k))), (3, .int (iz kk)), (2, .int (iz nz)), (0, .ref mo), (1, .int (iz ask))]) hx hb dX6_locate_159 hl (by decide) rfl (fun ls hl => ?_)
                        refine lv_iload_n hx hb dX6_locate_161 rfl (lv_at hl 9 rfl) ?_
                        refine lv_iload_n hx hb dX6_locate_162 rfl (lv_at hl 7 rfl) ?_
                        refine ki_icmp_lt (tgt := 218) hx hb dX6_locate_163 (by decide) (by omega) (by omega) (by omega) (by omega) (fun c_58 => ?_) (fun c_58 => ?_)
                        · skip
                          refine lv_iload_n hx hb dX6_locate_218 rfl (lv_at hl 7 rfl) ?_
                          refine lv_iload hx hb dX6_locate_219 (lv_at hl 0 rfl) ?_
                          refine ki_iadd hx hb dX6_locate_221 ?_
                          refine lv_istore_n (lv' := [(2, .int (iz (nz + 1))), (9, .int (iz 1)), (8, .int (iz 1)), (7, .int (iz rg)), (6, .int (iz to)), (5, .int (iz (F 26 k))), (4, .int (iz (F 25 k))), (3, .int (iz kk)), (0, .ref mo), (1, .int (iz ask))]) hx hb dX6_locate_222 rfl hl (by decide) rfl (fun ls hl => ?_)
                          refine lv_goto (tgt := 4) hx hb dX6_locate_223 (by decide) ?_
                          exact ih4 (nz + 1) kk J ⟨hBJ, hfJ, by simp [mFd, va_up] at hfdJ ⊢; omega, by omega, by omega⟩ (by omega) _ _ hP hD hS ls (lv_sub hl [7, 0, 8, 9] rfl)
                        · skip
                          refine lv_iload_n hx hb dX6_locate_166 rfl (lv_at hl 9 rfl) ?_
                          refine lv_iload_n hx hb dX6_locate_167 rfl (lv_at hl 7 rfl) ?_
                          refine lv_iload hx hb dX6_locate_168 (lv_at hl 0 rfl) ?_
                          refine ki_iadd hx hb dX6_locate_170 ?_
                          refine ki_icmp_ge (tgt := 218) hx hb dX6_locate_171 (by decide) (by omega) (by omega) (by omega) (by omega) (fun c_59 => ?_) (fun c_59 => ?_)
                          · skip
                            refine lv_iload_n hx hb dX6_locate_218 rfl (lv_at hl 7 rfl) ?_
                            refine lv_iload hx hb dX6_locate_219 (lv_at hl 0 rfl) ?_
                            refine ki_iadd hx hb dX6_locate_221 ?_
                            refine lv_istore_n (lv' := [(2, .int (iz (nz + 1))), (9, .int (iz 1)), (8, .int (iz 1)), (7, .int (iz rg)), (6, .int (iz to)), (5, .int (iz (F 26 k))), (4, .int (iz (F 25 k))), (3, .int (iz kk)), (0, .ref mo), (1, .int (iz ask))]) hx hb dX6_locate_222 rfl hl (by decide) rfl (fun ls hl => ?_)
                            refine lv_goto (tgt := 4) hx hb dX6_locate_223 (by decide) ?_
                            exact ih4 (nz + 1) kk J ⟨hBJ, hfJ, by simp [mFd, va_up] at hfdJ ⊢; omega, by omega, by omega⟩ (by omega) _ _ hP hD hS ls (lv_sub hl [7, 0, 8, 9] rfl)
                          · skip
                            refine lv_aload_n hx hb dX6_locate_174 rfl (lv_at hl 8 rfl) ?_
                            refine lv_iload hx hb dX6_locate_175 (lv_at hl 5 rfl) ?_
                            refine va_put (D := (dC, dI)) (ci := 6) (v := .int (iz (F 25 k))) (ty := .int) (C := RX6) (T := TX6) (N := 44) hx hb hts kt_X6 tyX6 tyX6_ok nmX6 hown hK hP hD hS 0 rfl rfl 31 (by decide) (kx_word hG kq_09_mput_0 rfl) (fun _ h9 => h9) rfl (by decide +kernel) rfl rfl (Nat.le_of_ble_eq_true rfl) dX6_locate_177 (fun H locs hP hD hS => ?_)
                            have hP : va_P (dC, dI) kxCl (mW mo ma cs (va_up J 31 (F 25 k)) F) H := hP
                            have hD : va_D A (mW mo ma cs (va_up J 31 (F 25 k)) F) := hD
                            refine lv_aload_n hx hb dX6_locate_180 rfl (lv_at hl 8 rfl) ?_
                            refine lv_iload hx hb dX6_locate_181 (lv_at hl 1 rfl) ?_
                            refine ki_if_eq (tgt := 191) hx hb dX6_locate_183 (by decide) (by omega) (by omega) (fun c_60 => ?_) (fun c_60 => ?_)
                            · omega
                            · skip
                              refine lv_iload hx hb dX6_locate_186 (lv_at hl 4 rfl) ?_
                              refine lv_goto (tgt := 197) hx hb dX6_locate_188 (by decide) ?_
                              refine va_put (D := (dC, dI)) (ci := 6) (v := .int (iz (F 26 k))) (ty := .int) (C := RX6) (T := TX6) (N := 44) hx hb hts kt_X6 tyX6 tyX6_ok nmX6 hown hK hP hD hS 0 rfl rfl 32 (by decide) (kx_word hG kq_09_mput_1 rfl) (fun _ h9 => h9) rfl (by decide +kernel) rfl rfl (Nat.le_of_ble_eq_true rfl) dX6_locate_197 (fun H locs hP hD hS => ?_)
                              have hP : va_P (dC, dI) kxCl (mW mo ma cs (va_up (va_up J 31 (F 25 k)) 32 (F 26 k)) F) H := hP
                              have hD : va_D A (mW mo ma cs (va_up (va_up J 31 (F 25 k)) 32 (F 26 k)) F) := hD
                              refine lv_aload_n hx hb dX6_locate_200 rfl (lv_at hl 8 rfl) ?_
                              refine lv_iload hx hb dX6_locate_201 (lv_at hl 1 rfl) ?_
                              refine ki_if_eq (tgt := 211) hx hb dX6_locate_203 (by decide) (by omega) (by omega) (fun c_61 => ?_) (fun c_61 => ?_)
                              · omega
                              · skip
                                refine lv_iload hx hb dX6_locate_206 (lv_at hl 3 rfl) ?_
                                refine lv_goto (tgt := 215) hx hb dX6_locate_208 (by decide) ?_
                                refine va_put (D := (dC, dI)) (ci := 6) (v := .int (iz to)) (ty := .int) (C := RX6) (T := TX6) (N := 44) hx hb hts kt_X6 tyX6 tyX6_ok nmX6 hown hK hP hD hS 0 rfl rfl 33 (by decide) (kx_word hG kq_09_mput_2 rfl) (fun _ h9 => h9) rfl (by decide +kernel) rfl rfl (Nat.le_of_ble_eq_true rfl) dX6_locate_215 (fun H locs hP hD hS => ?_)
                                have hP : va_P (dC, dI) kxCl (mW mo ma cs (va_up (va_up (va_up J 31 (F 25 k)) 32 (F 26 k)) 33 to) F) H := hP
                                have hD : va_D A (mW mo ma cs (va_up (va_up (va_up J 31 (F 25 k)) 32 (F 26 k)) 33 to) F) := hD
                                refine lv_iload_n hx hb dX6_locate_218 rfl (lv_at hl 7 rfl) ?_
                                refine lv_iload hx hb dX6_locate_219 (lv_at hl 0 rfl) ?_
                                refine ki_iadd hx hb dX6_locate_221 ?_
                                refine lv_istore_n (lv' := [(2, .int (iz (nz + 1))), (9, .int (iz 1)), (8, .int (iz 1)), (7, .int (iz rg)), (6, .int (iz to)), (5, .int (iz (F 26 k))), (4, .int (iz (F 25 k))), (3, .int (iz kk)), (0, .ref mo), (1, .int (iz ask))]) hx hb dX6_locate_222 rfl hl (by decide) rfl (fun ls hl => ?_)
                                refine lv_goto (tgt := 4) hx hb dX6_locate_223 (by decide) ?_
                                exact ih4 (nz + 1) kk (va_up (va_up (va_up J 31 (F 25 k)) 32 (F 26 k)) 33 to) ⟨(mB_i (mB_i (mB_i hBJ 31 (by omega) (by omega)) 32 (by omega) (by omega)) 33 (by omega) (by omega)), (mfr.upI (mfr.upI (mfr.upI hfJ (by decide) _) (by decide) _) (by decide) _), by simp [mFd, va_up] at hfdJ ⊢; omega, by omega, by omega⟩ (by omega) _ _ hP hD hS ls (lv_sub hl [7, 0, 8, 9] rfl)
                · skip
                  refine lv_aload_n hx hb dX6_locate_71 rfl (lv_at hl 6 rfl) ?_
                  refine va_get (D := (dC, dI)) (ci := 6) (v := .ref (ma 27)) (C := RX6) (T := TX6) (N := 44) hx hb hts kt_X6 hown hK hP 0 rfl rfl 27 (by decide) (kx_word hG kq_08_mgather_3 rfl) (fun _ h9 => h9) rfl dX6_locate_72 ?_
                  refine lv_iload_n hx hb dX6_locate_75 rfl (lv_at hl 4 rfl) ?_
                  refine ki_iald (F := F 27) hx hb hK hP 22 21 rfl rfl (by omega) (by omega) (by decide) dX6_locate_76 ?_
                  have hbd_62 := hBJ.2 27 kk
                  refine lv_iload hx hb dX6_locate_77 (lv_at hl 1 rfl) ?_
                  refine ki_icmp_le (tgt := 91) hx hb dX6_locate_79 (by decide) (by omega) (by omega) (by omega) (by omega) (fun c_63 => ?_) (fun c_63 => ?_)
                  · skip
                    refine lv_iload hx hb dX6_locate_91 (lv_at hl 1 rfl) ?_
                    refine lv_istore (lv' := [(6, .int (iz to)), (7, .int (iz rg)), (5, .int (iz (F 26 k))), (4, .int (iz (F 25 k))), (3, .int (iz kk)), (2, .int (iz nz)), (0, .ref mo), (1, .int (iz ask))]) hx hb dX6_locate_93 hl (by decide) rfl (fun ls hl => ?_)
                    refine lv_iload hx hb dX6_locate_95 (lv_at hl 1 rfl) ?_
                    refine ki_if_ne (tgt := 109) hx hb dX6_locate_97 (by decide) (by omega) (by omega) (fun c_64 => ?_) (fun c_64 => ?_)
                    · skip
                      refine lv_iconst (v := iz 1) hx hb dX6_locate_109 (by decide) ?_
                      refine lv_goto (tgt := 114) hx hb dX6_locate_110 (by decide) ?_
                      refine lv_istore (lv' := [(7, .int (iz 1)), (6, .int (iz to)), (5, .int (iz (F 26 k))), (4, .int (iz (F 25 k))), (3, .int (iz kk)), (2, .int (iz nz)), (0, .ref mo), (1, .int (iz ask))]) hx hb dX6_locate_114 hl (by decide) rfl (fun ls hl => ?_)
                      refine lv_iinc (v := iz (kk + 1)) (lv' := [(3, .int (iz (kk + 1))), (7, .int (iz 1)), (6, .int (iz to)), (5, .int (iz (F 26 k))), (4, .int (iz (F 25 k))), (2, .int (iz nz)), (0, .ref mo), (1, .int (iz ask))]) hx hb dX6_locate_116 hl (k := 4) rfl (iz_add kk 1) (by decide) rfl (fun ls hl => ?_)
                      refine lv_goto (tgt := 39) hx hb dX6_locate_119 (by decide) ?_
                      have hgk := hgt k (by omega) (by omega)
                      exact ih39 (kk + 1) to 1 ⟨by omega, by omega, by omega, fun h => absurd h (by omega)⟩ (by omega) _ _ hP hD hS ls (lv_sub hl [1, 2, 3, 4, 0, 5, 6, 7] rfl)
                    · skip
                      refine lv_aload_n hx hb dX6_locate_100 rfl (lv_at hl 6 rfl) ?_
                      refine va_get (D := (dC, dI)) (ci := 6) (v := .ref (ma 28)) (C := RX6) (T := TX6) (N := 44) hx hb hts kt_X6 hown hK hP 0 rfl rfl 28 (by decide) (kx_word hG kq_08_mgather_4 rfl) (fun _ h9 => h9) rfl dX6_locate_101 ?_
                      refine lv_iload_n hx hb dX6_locate_104 rfl (lv_at hl 4 rfl) ?_
                      refine ki_zald (F := F 28) hx hb hK hP 23 22 rfl rfl (by omega) (by omega) (by decide) dX6_locate_105 ?_
                      have hbd_65 := hBJ.2 28 kk
                      refine ki_if_eq (tgt := 113) hx hb dX6_locate_106 (by decide) (by omega) (by omega) (fun c_66 => ?_) (fun c_66 => ?_)
                      · skip
                        refine lv_iconst (v := iz 0) hx hb dX6_locate_113 (by decide) ?_
                        refine lv_istore (lv' := [(7, .int (iz 0)), (6, .int (iz to)), (5, .int (iz (F 26 k))), (4, .int (iz (F 25 k))), (3, .int (iz kk)), (2, .int (iz nz)), (0, .ref mo), (1, .int (iz ask))]) hx hb dX6_locate_114 hl (by decide) rfl (fun ls hl => ?_)
                        refine lv_iinc (v := iz (kk + 1)) (lv' := [(3, .int (iz (kk + 1))), (7, .int (iz 0)), (6, .int (iz to)), (5, .int (iz (F 26 k))), (4, .int (iz (F 25 k))), (2, .int (iz nz)), (0, .ref mo), (1, .int (iz ask))]) hx hb dX6_locate_116 hl (k := 4) rfl (iz_add kk 1) (by decide) rfl (fun ls hl => ?_)
                        refine lv_goto (tgt := 39) hx hb dX6_locate_119 (by decide) ?_
                        have hgk := hgt k (by omega) (by omega)
                        exact ih39 (kk + 1) to 0 ⟨by omega, by omega, by omega, fun h => absurd h (by omega)⟩ (by omega) _ _ hP hD hS ls (lv_sub hl [1, 2, 3, 4, 0, 5, 6, 7] rfl)
                      · skip
                        refine lv_iconst (v := iz 1) hx hb dX6_locate_109 (by decide) ?_
                        refine lv_goto (tgt := 114) hx hb dX6_locate_110 (by decide) ?_
                        refine lv_istore (lv' := [(7, .int (iz 1)), (6, .int (iz to)), (5, .int (iz (F 26 k))), (4, .int (iz (F 25 k))), (3, .int (iz kk)), (2, .int (iz nz)), (0, .ref mo), (1, .int (iz ask))]) hx hb dX6_locate_114 hl (by decide) rfl (fun ls hl => ?_)
                        refine lv_iinc (v := iz (kk + 1)) (lv' := [(3, .int (iz (kk + 1))), (7, .int (iz 1)), (6, .int (iz to)), (5, .int (iz (F 26 k))), (4, .int (iz (F 25 k))), (2, .int (iz nz)), (0, .ref mo), (1, .int (iz ask))]) hx hb dX6_locate_116 hl (k := 4) rfl (iz_add kk 1) (by decide) rfl (fun ls hl => ?_)
                        refine lv_goto (tgt := 39) hx hb dX6_locate_119 (by decide) ?_
                        have hgk := hgt k (by omega) (by omega)
                        exact ih39 (kk + 1) to 1 ⟨by omega, by omega, by omega, fun h => absurd h (by omega)⟩ (by omega) _ _ hP hD hS ls (lv_sub hl [1, 2, 3, 4, 0, 5, 6, 7] rfl)
                  · skip
                    refine lv_aload_n hx hb dX6_locate_82 rfl (lv_at hl 6 rfl) ?_
                    refine va_get (D := (dC, dI)) (ci := 6) (v := .ref (ma 27)) (C := RX6) (T := TX6) (N := 44) hx hb hts kt_X6 hown hK hP 0 rfl rfl 27 (by decide) (kx_word hG kq_08_mgather_3 rfl) (fun _ h9 => h9) rfl dX6_locate_83 ?_
                    refine lv_iload_n hx hb dX6_locate_86 rfl (lv_at hl 4 rfl) ?_
                    refine ki_iald (F := F 27) hx hb hK hP 22 21 rfl rfl (by omega) (by omega) (by decide) dX6_locate_87 ?_
                    refine lv_goto (tgt := 93) hx hb dX6_locate_88 (by decide) ?_
                    refine lv_istore (lv' := [(6, .int (iz (F 27 kk))), (7, .int (iz rg)), (5, .int (iz (F 26 k))), (4, .int (iz (F 25 k))), (3, .int (iz kk)), (2, .int (iz nz)), (0, .ref mo), (1, .int (iz ask))]) hx hb dX6_locate_93 hl (by decide) rfl (fun ls hl => ?_)
                    refine lv_iload hx hb dX6_locate_95 (lv_at hl 1 rfl) ?_
                    refine ki_if_ne (tgt := 109) hx hb dX6_locate_97 (by decide) (by omega) (by omega) (fun c_67 => ?_) (fun c_67 => ?_)
                    · skip
                      refine lv_iconst (v := iz 1) hx hb dX6_locate_109 (by decide) ?_
                      refine lv_goto (tgt := 114) hx hb dX6_locate_110 (by decide) ?_
                      refine lv_istore (lv' := [(7, .int (iz 1)), (6, .int (iz (F 27 kk))), (5, .int (iz (F 26 k))), (4, .int (iz (F 25 k))), (3, .int (iz kk)), (2, .int (iz nz)), (0, .ref mo), (1, .int (iz ask))]) hx hb dX6_locate_114 hl (by decide) rfl (fun ls hl => ?_)
                      refine lv_iinc (v := iz (kk + 1)) (lv' := [(3, .int (iz (kk + 1))), (7, .int (iz 1)), (6, .int (iz (F 27 kk))), (5, .int (iz (F 26 k))), (4, .int (iz (F 25 k))), (2, .int (iz nz)), (0, .ref mo), (1, .int (iz ask))]) hx hb dX6_locate_116 hl (k := 4) rfl (iz_add kk 1) (by decide) rfl (fun ls hl => ?_)
                      refine lv_goto (tgt := 39) hx hb dX6_locate_119 (by decide) ?_
                      have hgk := hgt k (by omega) (by omega)
                      exact ih39 (kk + 1) (F 27 kk) 1 ⟨by omega, by omega, by omega, fun h => absurd h (by omega)⟩ (by omega) _ _ hP hD hS ls (lv_sub hl [1, 2, 3, 4, 0, 5, 6, 7] rfl)
                    · skip
                      refine lv_aload_n hx hb dX6_locate_100 rfl (lv_at hl 6 rfl) ?_
                      refine va_get (D := (dC, dI)) (ci := 6) (v := .ref (ma 28)) (C := RX6) (T := TX6) (N := 44) hx hb hts kt_X6 hown hK hP 0 rfl rfl 28 (by decide) (kx_word hG kq_08_mgather_4 rfl) (fun _ h9 => h9) rfl dX6_locate_101 ?_
                      refine lv_iload_n hx hb dX6_locate_104 rfl (lv_at hl 4 rfl) ?_
                      refine ki_zald (F := F 28) hx hb hK hP 23 22 rfl rfl (by omega) (by omega) (by decide) dX6_locate_105 ?_
                      have hbd_68 := hBJ.2 28 kk
                      refine ki_if_eq (tgt := 113) hx hb dX6_locate_106 (by decide) (by omega) (by omega) (fun c_69 => ?_) (fun c_69 => ?_)
                      · skip
                        refine lv_iconst (v := iz 0) hx hb dX6_locate_113 (by decide) ?_
                        refine lv_istore (lv' := [(7, .int (iz 0)), (6, .int (iz (F 27 kk))), (5, .int (iz (F 26 k))), (4, .int (iz (F 25 k))), (3, .int (iz kk)), (2, .int (iz nz)), (0, .ref mo), (1, .int (iz ask))]) hx hb dX6_locate_114 hl (by decide) rfl (fun ls hl => ?_)
                        refine lv_iinc (v := iz (kk + 1)) (lv' := [(3, .int (iz (kk + 1))), (7, .int (iz 0)), (6, .int (iz (F 27 kk))), (5, .int (iz (F 26 k))), (4, .int (iz (F 25 k))), (2, .int (iz nz)), (0, .ref mo), (1, .int (iz ask))]) hx hb dX6_locate_116 hl (k := 4) rfl (iz_add kk 1) (by decide) rfl (fun ls hl => ?_)
                        refine lv_goto (tgt := 39) hx hb dX6_locate_119 (by decide) ?_
                        have hgk := hgt k (by omega) (by omega)
                        exact ih39 (kk + 1) (F 27 kk) 0 ⟨by omega, by omega, by omega, fun h => absurd h (by omega)⟩ (by omega) _ _ hP hD hS ls (lv_sub hl [1, 2, 3, 4, 0, 5, 6, 7] rfl)
                      · skip
                        refine lv_iconst (v := iz 1) hx hb dX6_locate_109 (by decide) ?_
                        refine lv_goto (tgt := 114) hx hb dX6_locate_110 (by decide) ?_
                        refine lv_istore (lv' := [(7, .int (iz 1)), (6, .int (iz (F 27 kk))), (5, .int (iz (F 26 k))), (4, .int (iz (F 25 k))), (3, .int (iz kk)), (2, .int (iz nz)), (0, .ref mo), (1, .int (iz ask))]) hx hb dX6_locate_114 hl (by decide) rfl (fun ls hl => ?_)
                        refine lv_iinc (v := iz (kk + 1)) (lv' := [(3, .int (iz (kk + 1))), (7, .int (iz 1)), (6, .int (iz (F 27 kk))), (5, .int (iz (F 26 k))), (4, .int (iz (F 25 k))), (2, .int (iz nz)), (0, .ref mo), (1, .int (iz ask))]) hx hb dX6_locate_116 hl (k := 4) rfl (iz_add kk 1) (by decide) rfl (fun ls hl => ?_)
                        refine lv_goto (tgt := 39) hx hb dX6_locate_119 (by decide) ?_
                        have hgk := hgt k (by omega) (by omega)
                        exact ih39 (kk + 1) (F 27 kk) 1 ⟨by omega, by omega, by omega, fun h => absurd h (by omega)⟩ (by omega) _ _ hP hD hS ls (lv_sub hl [1, 2, 3, 4, 0, 5, 6, 7] rfl)
        exact lp39 _ k (F 27 k) 0 ⟨by omega, by omega, by omega, fun _ => ⟨rfl, rfl⟩⟩ (Nat.lt_succ_self _) _ _ hP hD hS ls (lv_sub hl [0, 1, 2, 3, 4, 5, 6, 7] rfl)
  exact lp4 _ 0 0 I ⟨hB, mfr.rf, hfd, by omega, by omega⟩ (Nat.lt_succ_self _) _ _ hP hD hS ls (lv_sub hl [0, 1, 2, 3] rfl)
set_option maxHeartbeats 4000000 in
set_option maxRecDepth 100000 in
theorem k_gatherShown (l : Launch) (dC : Nat → ClassId) (dI : Nat → Nat → Nat) (mo : Nat) (ma : Nat → Nat) (cs : Nat → ClassId) (I : Nat → Int) (F : Nat → Int → Int) (p0 : Int) (sz : Nat) (hB : mB I F) (hc : 0 ≤ I 1 ∧ I 1 ≤ 64) (hmy : ∀ e, 0 ≤ F 13 e ∧ F 13 e ≤ 5) (hsm : mSm (I 1) F) (hse : mSe I F) (hsu : sumI (F 13) (I 1).toNat ≤ 64) (hp01 : -2147483648 ≤ p0) (hp02 : p0 < 2147483648) : mMv l yX6_gatherShown (.code yX6_gatherShown cX6_gatherShown 7 none) 0 0 dC dI mo ma cs I F [.ref mo, .int (iz p0)] sz (fun (I' : Nat → Int) (F' : Nat → Int → Int) => mB I' F' ∧ mfr [35] [34] I F I' F' ∧ (0 ≤ I' 35 ∧ I' 35 ≤ 64) ∧ mSh (I 1) I' F') := by
  refine Met.ofW (cc := cX6_gatherShown) (maxL := 7) (ret := none) (by decide) rfl ?_
  intro p e s m args below meth c s₁ B hml hv
  obtain ⟨rfl, hsz, hP, hK, hD0, hG, hZ⟩ := hv
  have hx := B.exec
  have hb := B.bytes
  have hr := B.returns
  have hts := kx_hts (a := ([.ref mo, .int (iz p0)] : List Value).toArray) hG
  have hown : s.vm.findClass RX6 = some m.cls := findClass_of_methodNamed B.named
  have hlocks := B.notSynchronized
  subst hsz
  have hD := hD0.self (sz := s.heap.size)
  generalize hAe : va_A (mW mo ma cs I F) s.heap.size = A at hD hZ ⊢
  have hA : ∀ q : Nat, s.heap.size ≤ q → A q := fun q h => by rw [← hAe]; exact Or.inr h
  have hS : va_S A s.heap s.heap [] := va_S.rf
  have hl := lv_entry ([.ref mo, .int (iz p0)]) (n := 7) (Nat.le_of_ble_eq_true rfl)
  rw [lg_entry_eq]
  generalize (lg_sl ([.ref mo, .int (iz p0)]) ++ List.replicate (7 - (lg_sl ([.ref mo, .int (iz p0)])).length) Slot.unset).toArray = ls at hl ⊢
  have hl : lv_has ls 7 [(0, .ref mo), (1, .int (iz p0))] := hl
  generalize hQe : MQ below (mQv dC dI mo ma cs A (fun (I' : Nat → Int) (F' : Nat → Int → Int) => mB I' F' ∧ mfr [35] [34] I F I' F' ∧ (0 ≤ I' 35 ∧ I' 35 ≤ 64) ∧ mSh (I 1) I' F')) ([.ref mo, .int (iz p0)] : List Value).toArray s 0 0 A = QQ
  refine lv_aload_n hx hb dX6_gatherShown_0 rfl (lv_at hl 0 rfl) ?_
  refine lv_iconst (v := iz 0) hx hb dX6_gatherShown_1 (by decide) ?_
  refine va_put (D := (dC, dI)) (ci := 6) (v := .int (iz 0)) (ty := .int) (C := RX6) (T := TX6) (N := 44) hx hb hts kt_X6 tyX6 tyX6_ok nmX6 hown hK hP hD hS 0 rfl rfl 35 (by decide) (kx_word hG kq_09_mput_3 rfl) (fun _ h9 => h9) rfl (by decide +kernel) rfl rfl (Nat.le_of_ble_eq_true rfl) dX6_gatherShown_2 (fun H locs hP hD hS => ?_)
  have hP : va_P (dC, dI) kxCl (mW mo ma cs (va_up I 35 0) F) H := hP
  have hD : va_D A (mW mo ma cs (va_up I 35 0) F) := hD
  refine lv_iconst (v := iz 0) hx hb dX6_gatherShown_5 (by decide) ?_
  refine lv_istore_n (lv' := [(2, .int (iz 0)), (0, .ref mo), (1, .int (iz p0))]) hx hb dX6_gatherShown_6 rfl hl (by decide) rfl (fun ls hl => ?_)
  have lp7 : ∀ (n : Nat) (ev : Int) (J : Nat → Int) (G : Nat → Int → Int), ((mB J G) ∧ (mfr [35] [34] I F J G) ∧ (0 ≤ ev ∧ ev ≤ I 1) ∧ (0 ≤ J 35 ∧ J 35 ≤ sumI (F 13) ev.toNat) ∧ (mSh (I 1) J G)) → (I 1 - ev).toNat < n → ∀ (H : Heap) (locs : List Loc), va_P (dC, dI) kxCl (mW mo ma cs J G) H → va_D A (mW mo ma cs J G) → va_S A s.heap H locs → ∀ ls : Array Slot, lv_has ls 7 [(2, .int (iz ev)), (0, .ref mo), (1, .int (iz p0))] → W p l e (headSpec [.code yX6_gatherShown cX6_gatherShown 7 none] ({ frames := 0, cells := 0, slots := 0, locals := 0 })).room s m ([.ref mo, .int (iz p0)] : List Value).toArray below meth c H locs 0 0 QQ (F0 m 7 ls []) := by
    intro n
    induction n with
    | zero => intro ev J G hinv hm; exact absurd hm (Nat.not_lt_zero _)
    | succ n ih7 =>
      intro ev J G hinv hm H locs hP hD hS ls hl
      obtain ⟨hBJ, hfJ, hev, hsh, hsv⟩ := hinv
      have e1 := hfJ.1 1 (by decide)
      have hme := hmy ev
      refine lv_iload_n hx hb dX6_gatherShown_7 rfl (lv_at hl 0 rfl) ?_
      refine lv_aload_n hx hb dX6_gatherShown_8 rfl (lv_at hl 1 rfl) ?_
      refine va_get (D := (dC, dI)) (ci := 6) (v := .int (iz (J 1))) (C := RX6) (T := TX6) (N := 44) hx hb hts kt_X6 hown hK hP 0 rfl rfl 1 (by decide) (kx_word hG kq_04_msmall_1 rfl) (fun _ h9 => h9) rfl dX6_gatherShown_9 ?_
      have hbd_1 := hBJ.1 1
      refine ki_icmp_ge (tgt := 137) hx hb dX6_gatherShown_12 (by decide) (by omega) (by omega) (by omega) (by omega) (fun c_2 => ?_) (fun c_2 => ?_)
      · skip
        rw [← hQe]
        exact mk_ret hx hb hr hlocks hP hD hK hS dX6_gatherShown_137 (⟨hBJ, hfJ, by rw [show ev = I 1 by omega] at hsh; omega, hsv⟩)
      · skip
        refine lv_iconst (v := iz 0) hx hb dX6_gatherShown_15 (by decide) ?_
        refine lv_istore_n (lv' := [(3, .int (iz 0)), (2, .int (iz ev)), (0, .ref mo), (1, .int (iz p0))]) hx hb dX6_gatherShown_16 rfl hl (by decide) rfl (fun ls hl => ?_)
        have lp17 : ∀ (n : Nat) (k : Int) (J1 : Nat → Int) (G1 : Nat → Int → Int), ((mB J1 G1) ∧ (mfr [35] [34] I F J1 G1) ∧ (0 ≤ k ∧ k ≤ F 13 ev) ∧ (0 ≤ J1 35 ∧ J1 35 ≤ sumI (F 13) ev.toNat + k) ∧ (mSh (I 1) J1 G1)) → (F 13 ev - k).toNat < n → ∀ (H : Heap) (locs : List Loc), va_P (dC, dI) kxCl (mW mo ma cs J1 G1) H → va_D A (mW mo ma cs J1 G1) → va_S A s.heap H locs → ∀ ls : Array Slot, lv_has ls 7 [(3, .int (iz k)), (2, .int (iz ev)), (0, .ref mo), (1, .int (iz p0))] → W p l e (headSpec [.code yX6_gatherShown cX6_gatherShown 7 none] ({ frames := 0, cells := 0, slots := 0, locals := 0 })).room s m ([.ref mo, .int (iz p0)] : List Value).toArray below meth c H locs 0 0 QQ (F0 m 17 ls []) := by
          intro n
          induction n with
          | zero => intro k J1 G1 hinv hm; exact absurd hm (Nat.not_lt_zero _)
          | succ n ih17 =>
            intro k J1 G1 hinv hm H locs hP hD hS ls hl
            obtain ⟨hB1, hf1, hk, hs1, hv1⟩ := hinv
            have p13 := congrFun (hf1.2 13 (by decide)) ev
            have g1 := hf1.1 1 (by decide)
            have hm1 := sumI_le (fun j => (hmy j).1) (show ev.toNat + 1 ≤ (I 1).toNat by omega)
            have hm2 := sumI_succ (F 13) (show 0 ≤ ev by omega)
            have hm3 : (ev + 1).toNat = ev.toNat + 1 := by omega
            rw [hm3] at hm2
            refine lv_aload_n hx hb dX6_gatherShown_17 rfl (lv_at hl 2 rfl) ?_
            refine va_get (D := (dC, dI)) (ci := 6) (v := .ref (ma 17)) (C := RX6) (T := TX6) (N := 44) hx hb hts kt_X6 hown hK hP 0 rfl rfl 17 (by decide) (kx_word hG kq_06_mway_15 rfl) (fun _ h9 => h9) rfl dX6_gatherShown_18 ?_
            refine lv_iload_n hx hb dX6_gatherShown_21 rfl (lv_at hl 1 rfl) ?_
            refine ki_iald (F := G1 17) hx hb hK hP 13 12 rfl rfl (by omega) (by omega) (by decide) dX6_gatherShown_22 ?_
            have hbd_3 := hB1.2 17 ev
            refine lv_iload_n hx hb dX6_gatherShown_23 rfl (lv_at hl 3 rfl) ?_
            refine ki_icmp_ne (tgt := 131) hx hb dX6_gatherShown_24 (by decide) (by omega) (by omega) (by omega) (by omega) (fun c_4 => ?_) (fun c_4 => ?_)
            · skip
              refine lv_iinc (v := iz (ev + 1)) (lv' := [(2, .int (iz (ev + 1))), (3, .int (iz k)), (0, .ref mo), (1, .int (iz p0))]) hx hb dX6_gatherShown_131 hl (k := 1) rfl (iz_add ev 1) (by decide) rfl (fun ls hl => ?_)
              refine lv_goto (tgt := 7) hx hb dX6_gatherShown_134 (by decide) ?_
              exact ih7 (ev + 1) J1 G1 ⟨hB1, hf1, by omega, by rw [sumI_succ _ (by omega)]; omega, hv1⟩ (by omega) _ _ hP hD hS ls (lv_sub hl [0, 2, 3] rfl)
            · skip
              refine lv_iload_n hx hb dX6_gatherShown_27 rfl (lv_at hl 0 rfl) ?_
              refine lv_aload_n hx hb dX6_gatherShown_28 rfl (lv_at hl 2 rfl) ?_
              refine va_get (D := (dC, dI)) (ci := 6) (v := .ref (ma 13)) (C := RX6) (T := TX6) (N := 44) hx hb hts kt_X6 hown hK hP 0 rfl rfl 13 (by decide) (kx_word hG kq_04_msmall_38 rfl) (fun _ h9 => h9) rfl dX6_gatherShown_29 ?_
              refine lv_iload_n hx hb dX6_gatherShown_32 rfl (lv_at hl 1 rfl) ?_
              refine ki_iald (F := G1 13) hx hb hK hP 12 11 rfl rfl (by omega) (by omega) (by decide) dX6_gatherShown_33 ?_
              have hbd_5 := hB1.2 13 ev
              refine ki_icmp_ge (tgt := 131) hx hb dX6_gatherShown_34 (by decide) (by omega) (by omega) (by omega) (by omega) (fun c_6 => ?_) (fun c_6 => ?_)
              · skip
                refine lv_iinc (v := iz (ev + 1)) (lv' := [(2, .int (iz (ev + 1))), (3, .int (iz k)), (0, .ref mo), (1, .int (iz p0))]) hx hb dX6_gatherShown_131 hl (k := 1) rfl (iz_add ev 1) (by decide) rfl (fun ls hl => ?_)
                refine lv_goto (tgt := 7) hx hb dX6_gatherShown_134 (by decide) ?_
                exact ih7 (ev + 1) J1 G1 ⟨hB1, hf1, by omega, by rw [sumI_succ _ (by omega)]; omega, hv1⟩ (by omega) _ _ hP hD hS ls (lv_sub hl [0, 2, 3] rfl)
              · skip
                refine lv_aload_n hx hb dX6_gatherShown_37 rfl (lv_at hl 2 rfl) ?_
                refine va_get (D := (dC, dI)) (ci := 6) (v := .ref (ma 17)) (C := RX6) (T := TX6) (N := 44) hx hb hts kt_X6 hown hK hP 0 rfl rfl 17 (by decide) (kx_word hG kq_06_mway_15 rfl) (fun _ h9 => h9) rfl dX6_gatherShown_38 ?_
                refine lv_aload_n hx hb dX6_gatherShown_41 rfl (lv_at hl 2 rfl) ?_
                refine va_get (D := (dC, dI)) (ci := 6) (v := .ref (ma 12)) (C := RX6) (T := TX6) (N := 44) hx hb hts kt_X6 hown hK hP 0 rfl rfl 12 (by decide) (kx_word hG kq_04_msmall_39 rfl) (fun _ h9 => h9) rfl dX6_gatherShown_42 ?_
                refine lv_iconst (v := iz 5) hx hb dX6_gatherShown_45 (by decide) ?_
                refine lv_iload_n hx hb dX6_gatherShown_46 rfl (lv_at hl 1 rfl) ?_
                refine ki_imul hx hb dX6_gatherShown_47 ?_
                refine lv_iload_n hx hb dX6_gatherShown_48 rfl (lv_at hl 0 rfl) ?_
                refine ki_iadd hx hb dX6_gatherShown_49 ?_
                refine ki_iald (F := G1 12) hx hb hK hP 11 10 rfl rfl (by omega) (by omega) (by decide) dX6_gatherShown_50 ?_
                have hbd_7 := hB1.2 12 ((5 * ev) + k)
                have q12 := congrFun (hf1.2 12 (by decide)) ((5 * ev) + k)
                have hsk := hse ev k (by omega) (by omega) (by omega) (by omega)
                have q17 := congrFun (hf1.2 17 (by decide)) (G1 12 ((5 * ev) + k))
                have hsx := hsm (G1 12 ((5 * ev) + k)) (by omega) (by omega)
                refine ki_iald (F := G1 17) hx hb hK hP 13 12 rfl rfl (by omega) (by omega) (by decide) dX6_gatherShown_51 ?_
                have hbd_8 := hB1.2 17 (G1 12 ((5 * ev) + k))
                refine lv_istore (lv' := [(4, .int (iz (G1 17 (G1 12 ((5 * ev) + k))))), (3, .int (iz k)), (2, .int (iz ev)), (0, .ref mo), (1, .int (iz p0))]) hx hb dX6_gatherShown_52 hl (by decide) rfl (fun ls hl => ?_)
                refine lv_iconst (v := iz 0) hx hb dX6_gatherShown_54 (by decide) ?_
                refine lv_istore (lv' := [(5, .int (iz 0)), (4, .int (iz (G1 17 (G1 12 ((5 * ev) + k))))), (3, .int (iz k)), (2, .int (iz ev)), (0, .ref mo), (1, .int (iz p0))]) hx hb dX6_gatherShown_55 hl (by decide) rfl (fun ls hl => ?_)
                refine lv_iconst (v := iz 0) hx hb dX6_gatherShown_57 (by decide) ?_
                refine lv_istore (lv' := [(6, .int (iz 0)), (5, .int (iz 0)), (4, .int (iz (G1 17 (G1 12 ((5 * ev) + k))))), (3, .int (iz k)), (2, .int (iz ev)), (0, .ref mo), (1, .int (iz p0))]) hx hb dX6_gatherShown_58 hl (by decide) rfl (fun ls hl => ?_)
                have lp60 : ∀ (n : Nat) (is ix : Int), ((is = 0 ∨ is = 1) ∧ (0 ≤ ix ∧ ix ≤ J1 35)) → (J1 35 - ix).toNat < n → ∀ (H : Heap) (locs : List Loc), va_P (dC, dI) kxCl (mW mo ma cs J1 G1) H → va_D A (mW mo ma cs J1 G1) → va_S A s.heap H locs → ∀ ls : Array Slot, lv_has ls 7 [(6, .int (iz ix)), (5, .int (iz is)), (4, .int (iz (G1 17 (G1 12 ((5 * ev) + k))))), (3, .int (iz k)), (2, .int (iz ev)), (0, .ref mo), (1, .int (iz p0))] → W p l e (headSpec [.code yX6_gatherShown cX6_gatherShown 7 none] ({ frames := 0, cells := 0, slots := 0, locals := 0 })).room s m ([.ref mo, .int (iz p0)] : List Value).toArray below meth c H locs 0 0 QQ (F0 m 60 ls []) := by
                  intro n
                  induction n with
                  | zero => intro is ix hinv hm; exact absurd hm (Nat.not_lt_zero _)
                  | succ n ih60 =>
                    intro is ix hinv hm H locs hP hD hS ls hl
                    obtain ⟨his, hix⟩ := hinv
                    refine lv_iload hx hb dX6_gatherShown_60 (lv_at hl 0 rfl) ?_
                    refine lv_aload_n hx hb dX6_gatherShown_62 rfl (lv_at hl 5 rfl) ?_
                    refine va_get (D := (dC, dI)) (ci := 6) (v := .int (iz (J1 35))) (C := RX6) (T := TX6) (N := 44) hx hb hts kt_X6 hown hK hP 0 rfl rfl 35 (by decide) (kx_word hG kq_09_mput_3 rfl) (fun _ h9 => h9) rfl dX6_gatherShown_63 ?_
                    have hbd_9 := hB1.1 35
                    refine ki_icmp_ge (tgt := 99) hx hb dX6_gatherShown_66 (by decide) (by omega) (by omega) (by omega) (by omega) (fun c_10 => ?_) (fun c_10 => ?_)
                    · skip
                      refine lv_iload hx hb dX6_gatherShown_99 (lv_at hl 1 rfl) ?_
                      refine ki_if_ne (tgt := 125) hx hb dX6_gatherShown_101 (by decide) (by omega) (by omega) (fun c_11 => ?_) (fun c_11 => ?_)
                      · skip
                        refine lv_iinc (v := iz (k + 1)) (lv' := [(3, .int (iz (k + 1))), (6, .int (iz ix)), (5, .int (iz is)), (4, .int (iz (G1 17 (G1 12 ((5 * ev) + k))))), (2, .int (iz ev)), (0, .ref mo), (1, .int (iz p0))]) hx hb dX6_gatherShown_125 hl (k := 3) rfl (iz_add k 1) (by decide) rfl (fun ls hl => ?_)
                        refine lv_goto (tgt := 17) hx hb dX6_gatherShown_128 (by decide) ?_
                        exact ih17 (k + 1) J1 G1 ⟨hB1, hf1, by omega, by omega, hv1⟩ (by omega) _ _ hP hD hS ls (lv_sub hl [0, 4, 5, 6] rfl)
                      · skip
                        refine lv_aload_n hx hb dX6_gatherShown_104 rfl (lv_at hl 5 rfl) ?_
                        refine va_get (D := (dC, dI)) (ci := 6) (v := .ref (ma 34)) (C := RX6) (T := TX6) (N := 44) hx hb hts kt_X6 hown hK hP 0 rfl rfl 34 (by decide) (kx_word hG kq_09_mput_4 rfl) (fun _ h9 => h9) rfl dX6_gatherShown_105 ?_
                        refine lv_aload_n hx hb dX6_gatherShown_108 rfl (lv_at hl 5 rfl) ?_
                        refine va_get (D := (dC, dI)) (ci := 6) (v := .int (iz (J1 35))) (C := RX6) (T := TX6) (N := 44) hx hb hts kt_X6 hown hK hP 0 rfl rfl 35 (by decide) (kx_word hG kq_09_mput_3 rfl) (fun _ h9 => h9) rfl dX6_gatherShown_109 ?_
                        refine lv_iload hx hb dX6_gatherShown_112 (lv_at hl 2 rfl) ?_
                        refine ki_iast (F := G1 34) hx hb hK hP hD hS 24 23 rfl rfl (by omega) (by omega) (by decide) dX6_gatherShown_114 (fun H locs hP hD hS => ?_)
                        have hP : va_P (dC, dI) kxCl (mW mo ma cs J1 (va_up G1 34 (upI (G1 34) (J1 35) (G1 17 (G1 12 ((5 * ev) + k)))))) H := hP
                        have hD : va_D A (mW mo ma cs J1 (va_up G1 34 (upI (G1 34) (J1 35) (G1 17 (G1 12 ((5 * ev) + k)))))) := hD
                        refine lv_aload_n hx hb dX6_gatherShown_115 rfl (lv_at hl 5 rfl) ?_
                        refine lv_dup hx hb dX6_gatherShown_116 rfl ?_
                        refine va_get (D := (dC, dI)) (ci := 6) (v := .int (iz (J1 35))) (C := RX6) (T := TX6) (N := 44) hx hb hts kt_X6 hown hK hP 0 rfl rfl 35 (by decide) (kx_word hG kq_09_mput_3 rfl) (fun _ h9 => h9) rfl dX6_gatherShown_117 ?_
                        refine lv_iconst (v := iz 1) hx hb dX6_gatherShown_120 (by decide) ?_
                        refine ki_iadd hx hb dX6_gatherShown_121 ?_
                        refine va_put (D := (dC, dI)) (ci := 6) (v := .int (iz ((J1 35) + 1))) (ty := .int) (C := RX6) (T := TX6) (N := 44) hx hb hts kt_X6 tyX6 tyX6_ok nmX6 hown hK hP hD hS 0 rfl rfl 35 (by decide) (kx_word hG kq_09_mput_3 rfl) (fun _ h9 => h9) rfl (by decide +kernel) rfl rfl (Nat.le_of_ble_eq_true rfl) dX6_gatherShown_122 (fun H locs hP hD hS => ?_)
                        have hP : va_P (dC, dI) kxCl (mW mo ma cs (va_up J1 35 ((J1 35) + 1)) (va_up G1 34 (upI (G1 34) (J1 35) (G1 17 (G1 12 ((5 * ev) + k)))))) H := hP
                        have hD : va_D A (mW mo ma cs (va_up J1 35 ((J1 35) + 1)) (va_up G1 34 (upI (G1 34) (J1 35) (G1 17 (G1 12 ((5 * ev) + k)))))) := hD
                        refine lv_iinc (v := iz (k + 1)) (lv' := [(3, .int (iz (k + 1))), (6, .int (iz ix)), (5, .int (iz is)), (4, .int (iz (G1 17 (G1 12 ((5 * ev) + k))))), (2, .int (iz ev)), (0, .ref mo), (1, .int (iz p0))]) hx hb dX6_gatherShown_125 hl (k := 3) rfl (iz_add k 1) (by decide) rfl (fun ls hl => ?_)
                        refine lv_goto (tgt := 17) hx hb dX6_gatherShown_128 (by decide) ?_
                        exact ih17 (k + 1) (va_up J1 35 ((J1 35) + 1)) (va_up G1 34 (upI (G1 34) (J1 35) (G1 17 (G1 12 ((5 * ev) + k))))) ⟨(mB_f (mB_i hB1 35 (by omega) (by omega)) 34 (J1 35) (by omega) (by omega)), (mfr.upF (mfr.upI hf1 (by decide) _) (by decide) _), by omega, by rw [show (va_up J1 35 ((J1 35) + 1)) 35 = J1 35 + 1 from va_up_self _ _ _]; omega, mSh.add hv1 (show (va_up J1 35 ((J1 35) + 1)) 35 = J1 35 + 1 from va_up_self _ _ _) rfl (by omega)⟩ (by omega) _ _ hP hD hS ls (lv_sub hl [0, 4, 5, 6] rfl)
                    · skip
                      refine lv_iload hx hb dX6_gatherShown_69 (lv_at hl 1 rfl) ?_
                      refine ki_if_ne (tgt := 86) hx hb dX6_gatherShown_71 (by decide) (by omega) (by omega) (fun c_12 => ?_) (fun c_12 => ?_)
                      · skip
                        refine lv_iconst (v := iz 1) hx hb dX6_gatherShown_86 (by decide) ?_
                        refine lv_goto (tgt := 91) hx hb dX6_gatherShown_87 (by decide) ?_
                        refine lv_istore (lv' := [(5, .int (iz 1)), (6, .int (iz ix)), (4, .int (iz (G1 17 (G1 12 ((5 * ev) + k))))), (3, .int (iz k)), (2, .int (iz ev)), (0, .ref mo), (1, .int (iz p0))]) hx hb dX6_gatherShown_91 hl (by decide) rfl (fun ls hl => ?_)
                        refine lv_iinc (v := iz (ix + 1)) (lv' := [(6, .int (iz (ix + 1))), (5, .int (iz 1)), (4, .int (iz (G1 17 (G1 12 ((5 * ev) + k))))), (3, .int (iz k)), (2, .int (iz ev)), (0, .ref mo), (1, .int (iz p0))]) hx hb dX6_gatherShown_93 hl (k := 1) rfl (iz_add ix 1) (by decide) rfl (fun ls hl => ?_)
                        refine lv_goto (tgt := 60) hx hb dX6_gatherShown_96 (by decide) ?_
                        exact ih60 1 (ix + 1) ⟨by omega, by omega⟩ (by omega) _ _ hP hD hS ls (lv_sub hl [0, 1, 2, 3, 4, 5, 6] rfl)
                      · skip
                        refine lv_aload_n hx hb dX6_gatherShown_74 rfl (lv_at hl 5 rfl) ?_
                        refine va_get (D := (dC, dI)) (ci := 6) (v := .ref (ma 34)) (C := RX6) (T := TX6) (N := 44) hx hb hts kt_X6 hown hK hP 0 rfl rfl 34 (by decide) (kx_word hG kq_09_mput_4 rfl) (fun _ h9 => h9) rfl dX6_gatherShown_75 ?_
                        refine lv_iload hx hb dX6_gatherShown_78 (lv_at hl 0 rfl) ?_
                        refine ki_iald (F := G1 34) hx hb hK hP 24 23 rfl rfl (by omega) (by omega) (by decide) dX6_gatherShown_80 ?_
                        have hbd_13 := hB1.2 34 ix
                        refine lv_iload hx hb dX6_gatherShown_81 (lv_at hl 2 rfl) ?_
                        refine ki_icmp_ne (tgt := 90) hx hb dX6_gatherShown_83 (by decide) (by omega) (by omega) (by omega) (by omega) (fun c_14 => ?_) (fun c_14 => ?_)
                        · skip
                          refine lv_iconst (v := iz 0) hx hb dX6_gatherShown_90 (by decide) ?_
                          refine lv_istore (lv' := [(5, .int (iz 0)), (6, .int (iz ix)), (4, .int (iz (G1 17 (G1 12 ((5 * ev) + k))))), (3, .int (iz k)), (2, .int (iz ev)), (0, .ref mo), (1, .int (iz p0))]) hx hb dX6_gatherShown_91 hl (by decide) rfl (fun ls hl => ?_)
                          refine lv_iinc (v := iz (ix + 1)) (lv' := [(6, .int (iz (ix + 1))), (5, .int (iz 0)), (4, .int (iz (G1 17 (G1 12 ((5 * ev) + k))))), (3, .int (iz k)), (2, .int (iz ev)), (0, .ref mo), (1, .int (iz p0))]) hx hb dX6_gatherShown_93 hl (k := 1) rfl (iz_add ix 1) (by decide) rfl (fun ls hl => ?_)
                          refine lv_goto (tgt := 60) hx hb dX6_gatherShown_96 (by decide) ?_
                          exact ih60 0 (ix + 1) ⟨by omega, by omega⟩ (by omega) _ _ hP hD hS ls (lv_sub hl [0, 1, 2, 3, 4, 5, 6] rfl)
                        · skip
                          refine lv_iconst (v := iz 1) hx hb dX6_gatherShown_86 (by decide) ?_
                          refine lv_goto (tgt := 91) hx hb dX6_gatherShown_87 (by decide) ?_
                          refine lv_istore (lv' := [(5, .int (iz 1)), (6, .int (iz ix)), (4, .int (iz (G1 17 (G1 12 ((5 * ev) + k))))), (3, .int (iz k)), (2, .int (iz ev)), (0, .ref mo), (1, .int (iz p0))]) hx hb dX6_gatherShown_91 hl (by decide) rfl (fun ls hl => ?_)
                          refine lv_iinc (v := iz (ix + 1)) (lv' := [(6, .int (iz (ix + 1))), (5, .int (iz 1)), (4, .int (iz (G1 17 (G1 12 ((5 * ev) + k))))), (3, .int (iz k)), (2, .int (iz ev)), (0, .ref mo), (1, .int (iz p0))]) hx hb dX6_gatherShown_93 hl (k := 1) rfl (iz_add ix 1) (by decide) rfl (fun ls hl => ?_)
                          refine lv_goto (tgt := 60) hx hb dX6_gatherShown_96 (by decide) ?_
                          exact ih60 1 (ix + 1) ⟨by omega, by omega⟩ (by omega) _ _ hP hD hS ls (lv_sub hl [0, 1, 2, 3, 4, 5, 6] rfl)
                exact lp60 _ 0 0 ⟨by omega, by omega⟩ (Nat.lt_succ_self _) _ _ hP hD hS ls (lv_sub hl [0, 1, 2, 3, 4, 5, 6] rfl)
        exact lp17 _ 0 J G ⟨hBJ, hfJ, by omega, by omega, hsv⟩ (Nat.lt_succ_self _) _ _ hP hD hS ls (lv_sub hl [0, 1, 2, 3] rfl)
  exact lp7 _ 0 (va_up I 35 0) F ⟨(mB_i hB 35 (by omega) (by omega)), (mfr.upI mfr.rf (by decide) _), by omega, by rw [show (va_up I 35 0) 35 = 0 from rfl]; exact ⟨by omega, sumI_nn (fun j => (hmy j).1) _⟩, fun i a b => absurd (show i < 0 from b) (by omega)⟩ (Nat.lt_succ_self _) _ _ hP hD hS ls (lv_sub hl [0, 1, 2] rfl)
set_option maxHeartbeats 4000000 in
set_option maxRecDepth 100000 in
theorem k_isMark (l : Launch) (dC : Nat → ClassId) (dI : Nat → Nat → Nat) (p0 : Int) (sz : Nat) (hp01 : -2147483648 ≤ p0) (hp02 : p0 < 2147483648) : mMs l yX6_isMark (.code yX6_isMark cX6_isMark 1 (some .boolean)) 0 0 dC dI [.int (iz p0)] sz (fun (r : Int) => r = 0 ∨ r = 1) := by
  refine Met.ofW (cc := cX6_isMark) (maxL := 1) (ret := (some .boolean)) (by decide) rfl ?_
  intro p e s m args below meth c s₁ B hml hv
  obtain ⟨rfl, hsz, hP, hK, hD0, hG, hZ⟩ := hv
  have hx := B.exec
  have hb := B.bytes
  have hr := B.returns
  have hts := kx_hts (a := ([.int (iz p0)] : List Value).toArray) hG
  have hown : s.vm.findClass RX6 = some m.cls := findClass_of_methodNamed B.named
  have hlocks := B.notSynchronized
  subst hsz
  have hD := hD0.self (sz := s.heap.size)
  generalize hAe : va_A [] s.heap.size = A at hD hZ ⊢
  have hA : ∀ q : Nat, s.heap.size ≤ q → A q := fun q h => by rw [← hAe]; exact Or.inr h
  have hS : va_S A s.heap s.heap [] := va_S.rf
  have hl := lv_entry ([.int (iz p0)]) (n := 1) (Nat.le_of_ble_eq_true rfl)
  rw [lg_entry_eq]
  generalize (lg_sl ([.int (iz p0)]) ++ List.replicate (1 - (lg_sl ([.int (iz p0)])).length) Slot.unset).toArray = ls at hl ⊢
  have hl : lv_has ls 1 [(0, .int (iz p0))] := hl
  refine lv_iload_n hx hb dX6_isMark_0 rfl (lv_at hl 0 rfl) ?_
  refine lv_bipush (v := iz 119) hx hb dX6_isMark_1 (by decide) ?_
  refine ki_icmp_eq (tgt := 36) hx hb dX6_isMark_3 (by decide) (by omega) (by omega) (by omega) (by omega) (fun c_1 => ?_) (fun c_1 => ?_)
  · skip
    refine lv_iconst (v := iz 1) hx hb dX6_isMark_36 (by decide) ?_
    refine lv_goto (tgt := 41) hx hb dX6_isMark_37 (by decide) ?_
    exact W.zret (v := iz 1) hx hb hr (mz_bool (by omega)).1 (fun t ht hW => ⟨⟨iz 1, 1, rfl, ⟨rfl, by omega⟩, by rw [ht]; exact hP, va_K.moved hW.alike hK, hD⟩, hS.F ht⟩) hS.2.2 dX6_isMark_41
  · skip
    refine lv_iload_n hx hb dX6_isMark_6 rfl (lv_at hl 0 rfl) ?_
    refine lv_bipush (v := iz 112) hx hb dX6_isMark_7 (by decide) ?_
    refine ki_icmp_eq (tgt := 36) hx hb dX6_isMark_9 (by decide) (by omega) (by omega) (by omega) (by omega) (fun c_2 => ?_) (fun c_2 => ?_)
    · skip
      refine lv_iconst (v := iz 1) hx hb dX6_isMark_36 (by decide) ?_
      refine lv_goto (tgt := 41) hx hb dX6_isMark_37 (by decide) ?_
      exact W.zret (v := iz 1) hx hb hr (mz_bool (by omega)).1 (fun t ht hW => ⟨⟨iz 1, 1, rfl, ⟨rfl, by omega⟩, by rw [ht]; exact hP, va_K.moved hW.alike hK, hD⟩, hS.F ht⟩) hS.2.2 dX6_isMark_41
    · skip
      refine lv_iload_n hx hb dX6_isMark_12 rfl (lv_at hl 0 rfl) ?_
      refine lv_bipush (v := iz 115) hx hb dX6_isMark_13 (by decide) ?_
      refine ki_icmp_eq (tgt := 36) hx hb dX6_isMark_15 (by decide) (by omega) (by omega) (by omega) (by omega) (fun c_3 => ?_) (fun c_3 => ?_)
      · skip
        refine lv_iconst (v := iz 1) hx hb dX6_isMark_36 (by decide) ?_
        refine lv_goto (tgt := 41) hx hb dX6_isMark_37 (by decide) ?_
        exact W.zret (v := iz 1) hx hb hr (mz_bool (by omega)).1 (fun t ht hW => ⟨⟨iz 1, 1, rfl, ⟨rfl, by omega⟩, by rw [ht]; exact hP, va_K.moved hW.alike hK, hD⟩, hS.F ht⟩) hS.2.2 dX6_isMark_41
      · skip
        refine lv_iload_n hx hb dX6_isMark_18 rfl (lv_at hl 0 rfl) ?_
        refine lv_bipush (v := iz 103) hx hb dX6_isMark_19 (by decide) ?_
        refine ki_icmp_eq (tgt := 36) hx hb dX6_isMark_21 (by decide) (by omega) (by omega) (by omega) (by omega) (fun c_4 => ?_) (fun c_4 => ?_)
        · skip
          refine lv_iconst (v := iz 1) hx hb dX6_isMark_36 (by decide) ?_
          refine lv_goto (tgt := 41) hx hb dX6_isMark_37 (by decide) ?_
          exact W.zret (v := iz 1) hx hb hr (mz_bool (by omega)).1 (fun t ht hW => ⟨⟨iz 1, 1, rfl, ⟨rfl, by omega⟩, by rw [ht]; exact hP, va_K.moved hW.alike hK, hD⟩, hS.F ht⟩) hS.2.2 dX6_isMark_41
        · skip
          refine lv_iload_n hx hb dX6_isMark_24 rfl (lv_at hl 0 rfl) ?_
          refine lv_bipush (v := iz 110) hx hb dX6_isMark_25 (by decide) ?_
          refine ki_icmp_eq (tgt := 36) hx hb dX6_isMark_27 (by decide) (by omega) (by omega) (by omega) (by omega) (fun c_5 => ?_) (fun c_5 => ?_)
          · skip
            refine lv_iconst (v := iz 1) hx hb dX6_isMark_36 (by decide) ?_
            refine lv_goto (tgt := 41) hx hb dX6_isMark_37 (by decide) ?_
            exact W.zret (v := iz 1) hx hb hr (mz_bool (by omega)).1 (fun t ht hW => ⟨⟨iz 1, 1, rfl, ⟨rfl, by omega⟩, by rw [ht]; exact hP, va_K.moved hW.alike hK, hD⟩, hS.F ht⟩) hS.2.2 dX6_isMark_41
          · skip
            refine lv_iload_n hx hb dX6_isMark_30 rfl (lv_at hl 0 rfl) ?_
            refine lv_bipush (v := iz 37) hx hb dX6_isMark_31 (by decide) ?_
            refine ki_icmp_ne (tgt := 40) hx hb dX6_isMark_33 (by decide) (by omega) (by omega) (by omega) (by omega) (fun c_6 => ?_) (fun c_6 => ?_)
            · skip
              refine lv_iconst (v := iz 0) hx hb dX6_isMark_40 (by decide) ?_
              exact W.zret (v := iz 0) hx hb hr (mz_bool (by omega)).1 (fun t ht hW => ⟨⟨iz 0, 0, rfl, ⟨rfl, by omega⟩, by rw [ht]; exact hP, va_K.moved hW.alike hK, hD⟩, hS.F ht⟩) hS.2.2 dX6_isMark_41
            · skip
              refine lv_iconst (v := iz 1) hx hb dX6_isMark_36 (by decide) ?_
              refine lv_goto (tgt := 41) hx hb dX6_isMark_37 (by decide) ?_
              exact W.zret (v := iz 1) hx hb hr (mz_bool (by omega)).1 (fun t ht hW => ⟨⟨iz 1, 1, rfl, ⟨rfl, by omega⟩, by rw [ht]; exact hP, va_K.moved hW.alike hK, hD⟩, hS.F ht⟩) hS.2.2 dX6_isMark_41
set_option maxHeartbeats 4000000 in
set_option maxRecDepth 100000 in
theorem k_findFault (l : Launch) (dC : Nat → ClassId) (dI : Nat → Nat → Nat) (mo : Nat) (ma : Nat → Nat) (cs : Nat → ClassId) (I : Nat → Int) (F : Nat → Int → Int) (sz : Nat) (hB : mB I F) (hst : 0 ≤ I 37 ∧ I 37 ≤ 64) : mMi l yX6_findFault (.code yX6_findFault cX6_findFault 4 (some .int)) 1 20 dC dI mo ma cs I F [.ref mo] sz (fun (r : Int) (I' : Nat → Int) (F' : Nat → Int → Int) => I = I' ∧ mB I F' ∧ mfr [] [38] I F I F' ∧ (-1 ≤ r ∧ r ≤ 64) ∧ (r = -1 → mBr 4 I F')) := by
  refine Met.ofW (cc := cX6_findFault) (maxL := 4) (ret := (some .int)) (by decide) rfl ?_
  intro p e s m args below meth c s₁ B hml hv
  obtain ⟨rfl, hsz, hP, hK, hD0, hG, hZ⟩ := hv
  have hx := B.exec
  have hb := B.bytes
  have hr := B.returns
  have hts := kx_hts (a := ([.ref mo] : List Value).toArray) hG
  have hown : s.vm.findClass RX6 = some m.cls := findClass_of_methodNamed B.named
  have hlocks := B.notSynchronized
  subst hsz
  have hD := hD0.self (sz := s.heap.size)
  generalize hAe : va_A (mW mo ma cs I F) s.heap.size = A at hD hZ ⊢
  have hA : ∀ q : Nat, s.heap.size ≤ q → A q := fun q h => by rw [← hAe]; exact Or.inr h
  have hS : va_S A s.heap s.heap [] := va_S.rf
  have hl := lv_entry ([.ref mo]) (n := 4) (Nat.le_of_ble_eq_true rfl)
  rw [lg_entry_eq]
  generalize (lg_sl ([.ref mo]) ++ List.replicate (4 - (lg_sl ([.ref mo])).length) Slot.unset).toArray = ls at hl ⊢
  have hl : lv_has ls 4 [(0, .ref mo)] := hl
  generalize hQe : MQ below (mQi dC dI mo ma cs A (fun (r : Int) (I' : Nat → Int) (F' : Nat → Int → Int) => I = I' ∧ mB I F' ∧ mfr [] [38] I F I F' ∧ (-1 ≤ r ∧ r ≤ 64) ∧ (r = -1 → mBr 4 I F'))) ([.ref mo] : List Value).toArray s 0 0 A = QQ
  refine lv_iconst (v := iz 0) hx hb dX6_findFault_0 (by decide) ?_
  refine lv_istore_n (lv' := [(1, .int (iz 0)), (0, .ref mo)]) hx hb dX6_findFault_1 rfl hl (by decide) rfl (fun ls hl => ?_)
  refine lv_iconst (v := iz 0) hx hb dX6_findFault_2 (by decide) ?_
  refine lv_istore_n (lv' := [(2, .int (iz 0)), (1, .int (iz 0)), (0, .ref mo)]) hx hb dX6_findFault_3 rfl hl (by decide) rfl (fun ls hl => ?_)
  have lp4 : ∀ (n : Nat) (nb k : Int) (G : Nat → Int → Int), ((mB I G) ∧ (mfr [] [38] I F I G) ∧ (0 ≤ nb ∧ nb ≤ 3) ∧ (0 ≤ k ∧ k ≤ 66) ∧ (mBr nb I G)) → (I 37 - k).toNat < n → ∀ (H : Heap) (locs : List Loc), va_P (dC, dI) kxCl (mW mo ma cs I G) H → va_D A (mW mo ma cs I G) → va_S A s.heap H locs → ∀ ls : Array Slot, lv_has ls 4 [(2, .int (iz k)), (1, .int (iz nb)), (0, .ref mo)] → W p l e (headSpec [.code yX6_findFault cX6_findFault 4 (some .int)] ({ frames := 1, cells := 0, slots := 0, locals := 20 })).room s m ([.ref mo] : List Value).toArray below meth c H locs 0 0 QQ (F0 m 4 ls []) := by
    intro n
    induction n with
    | zero => intro nb k G hinv hm; exact absurd hm (Nat.not_lt_zero _)
    | succ n ih4 =>
      intro nb k G hinv hm H locs hP hD hS ls hl
      obtain ⟨hBG, hfG, hnb, hk, hbr⟩ := hinv
      refine lv_iload_n hx hb dX6_findFault_4 rfl (lv_at hl 0 rfl) ?_
      refine lv_aload_n hx hb dX6_findFault_5 rfl (lv_at hl 2 rfl) ?_
      refine va_get (D := (dC, dI)) (ci := 6) (v := .int (iz (I 37))) (C := RX6) (T := TX6) (N := 44) hx hb hts kt_X6 hown hK hP 0 rfl rfl 37 (by decide) (kx_word hG kq_04_msmall_19 rfl) (fun _ h9 => h9) rfl dX6_findFault_6 ?_
      have hbd_1 := hBG.1 37
      refine ki_icmp_ge (tgt := 97) hx hb dX6_findFault_9 (by decide) (by omega) (by omega) (by omega) (by omega) (fun c_2 => ?_) (fun c_2 => ?_)
      · skip
        refine lv_aload_n hx hb dX6_findFault_97 rfl (lv_at hl 2 rfl) ?_
        refine va_get (D := (dC, dI)) (ci := 6) (v := .ref (ma 38)) (C := RX6) (T := TX6) (N := 44) hx hb hts kt_X6 hown hK hP 0 rfl rfl 38 (by decide) (kx_word hG kq_09_mput_5 rfl) (fun _ h9 => h9) rfl dX6_findFault_98 ?_
        refine lv_iconst (v := iz 3) hx hb dX6_findFault_101 (by decide) ?_
        refine lv_aload_n hx hb dX6_findFault_102 rfl (lv_at hl 2 rfl) ?_
        refine va_get (D := (dC, dI)) (ci := 6) (v := .int (iz (I 37))) (C := RX6) (T := TX6) (N := 44) hx hb hts kt_X6 hown hK hP 0 rfl rfl 37 (by decide) (kx_word hG kq_04_msmall_19 rfl) (fun _ h9 => h9) rfl dX6_findFault_103 ?_
        refine ki_iast (F := G 38) hx hb hK hP hD hS 26 25 rfl rfl (by omega) (by omega) (by decide) dX6_findFault_106 (fun H locs hP hD hS => ?_)
        have hP : va_P (dC, dI) kxCl (mW mo ma cs I (va_up G 38 (upI (G 38) 3 (I 37)))) H := hP
        have hD : va_D A (mW mo ma cs I (va_up G 38 (upI (G 38) 3 (I 37)))) := hD
        refine lv_iload_n hx hb dX6_findFault_107 rfl (lv_at hl 1 rfl) ?_
        refine lv_iconst (v := iz 3) hx hb dX6_findFault_108 (by decide) ?_
        refine ki_icmp_ge (tgt := 119) hx hb dX6_findFault_109 (by decide) (by omega) (by omega) (by omega) (by omega) (fun c_3 => ?_) (fun c_3 => ?_)
        · skip
          refine lv_iconst (v := iz (-1)) hx hb dX6_findFault_119 (by decide) ?_
          rw [← hQe]
          exact mk_ireti hx hb hr hlocks hP hD hK hS dX6_findFault_120 (⟨rfl, (mB_f hBG 38 3 (by omega) (by omega)), (mfr.upF hfG (by decide) _), by omega, fun _ => mBr.last (by omega) hbr rfl (by omega)⟩)
        · skip
          refine lv_aload_n hx hb dX6_findFault_112 rfl (lv_at hl 2 rfl) ?_
          refine va_get (D := (dC, dI)) (ci := 6) (v := .int (iz (I 37))) (C := RX6) (T := TX6) (N := 44) hx hb hts kt_X6 hown hK hP 0 rfl rfl 37 (by decide) (kx_word hG kq_04_msmall_19 rfl) (fun _ h9 => h9) rfl dX6_findFault_113 ?_
          refine lv_goto (tgt := 120) hx hb dX6_findFault_116 (by decide) ?_
          rw [← hQe]
          exact mk_ireti hx hb hr hlocks hP hD hK hS dX6_findFault_120 (⟨rfl, (mB_f hBG 38 3 (by omega) (by omega)), (mfr.upF hfG (by decide) _), by omega, fun h => absurd h (by omega)⟩)
      · skip
        refine lv_aload_n hx hb dX6_findFault_12 rfl (lv_at hl 2 rfl) ?_
        refine va_get (D := (dC, dI)) (ci := 6) (v := .ref (ma 36)) (C := RX6) (T := TX6) (N := 44) hx hb hts kt_X6 hown hK hP 0 rfl rfl 36 (by decide) (kx_word hG kq_04_msmall_20 rfl) (fun _ h9 => h9) rfl dX6_findFault_13 ?_
        refine lv_iload_n hx hb dX6_findFault_16 rfl (lv_at hl 0 rfl) ?_
        refine ki_iald (F := G 36) hx hb hK hP 25 24 rfl rfl (by omega) (by omega) (by decide) dX6_findFault_17 ?_
        have hbd_4 := hBG.2 36 k
        refine lv_istore_n (lv' := [(3, .int (iz (G 36 k))), (2, .int (iz k)), (1, .int (iz nb)), (0, .ref mo)]) hx hb dX6_findFault_18 rfl hl (by decide) rfl (fun ls hl => ?_)
        refine lv_iload_n hx hb dX6_findFault_19 rfl (lv_at hl 0 rfl) ?_
        refine lv_bipush (v := iz 37) hx hb dX6_findFault_20 (by decide) ?_
        refine ki_icmp_ne (tgt := 49) hx hb dX6_findFault_22 (by decide) (by omega) (by omega) (by omega) (by omega) (fun c_5 => ?_) (fun c_5 => ?_)
        · skip
          refine lv_iload_n hx hb dX6_findFault_49 rfl (lv_at hl 0 rfl) ?_
          refine lv_bipush (v := iz 124) hx hb dX6_findFault_50 (by decide) ?_
          refine ki_icmp_ne (tgt := 62) hx hb dX6_findFault_52 (by decide) (by omega) (by omega) (by omega) (by omega) (fun c_6 => ?_) (fun c_6 => ?_)
          · skip
            refine lv_iload_n hx hb dX6_findFault_62 rfl (lv_at hl 0 rfl) ?_
            refine lv_bipush (v := iz 124) hx hb dX6_findFault_63 (by decide) ?_
            refine ki_icmp_ne (tgt := 78) hx hb dX6_findFault_65 (by decide) (by omega) (by omega) (by omega) (by omega) (fun c_7 => ?_) (fun c_7 => ?_)
            · skip
              refine lv_iload_n hx hb dX6_findFault_78 rfl (lv_at hl 0 rfl) ?_
              refine lv_bipush (v := iz 37) hx hb dX6_findFault_79 (by decide) ?_
              refine ki_icmp_ne (tgt := 90) hx hb dX6_findFault_81 (by decide) (by omega) (by omega) (by omega) (by omega) (fun c_8 => ?_) (fun c_8 => ?_)
              · skip
                refine lv_iload_n hx hb dX6_findFault_90 rfl (lv_at hl 1 rfl) ?_
                refine lv_iconst (v := iz 1) hx hb dX6_findFault_91 (by decide) ?_
                refine ki_iadd hx hb dX6_findFault_92 ?_
                refine lv_istore_n (lv' := [(2, .int (iz (k + 1))), (3, .int (iz (G 36 k))), (1, .int (iz nb)), (0, .ref mo)]) hx hb dX6_findFault_93 rfl hl (by decide) rfl (fun ls hl => ?_)
                refine lv_goto (tgt := 4) hx hb dX6_findFault_94 (by decide) ?_
                exact ih4 nb (k + 1) G ⟨hBG, hfG, by omega, by omega, hbr⟩ (by omega) _ _ hP hD hS ls (lv_sub hl [0, 2, 3] rfl)
              · omega
            · omega
          · skip
            refine lv_iload_n hx hb dX6_findFault_55 rfl (lv_at hl 2 rfl) ?_
            refine lv_iconst (v := iz 3) hx hb dX6_findFault_56 (by decide) ?_
            refine ki_icmp_ne (tgt := 62) hx hb dX6_findFault_57 (by decide) (by omega) (by omega) (by omega) (by omega) (fun c_9 => ?_) (fun c_9 => ?_)
            · skip
              refine lv_iload_n hx hb dX6_findFault_62 rfl (lv_at hl 0 rfl) ?_
              refine lv_bipush (v := iz 124) hx hb dX6_findFault_63 (by decide) ?_
              refine ki_icmp_ne (tgt := 78) hx hb dX6_findFault_65 (by decide) (by omega) (by omega) (by omega) (by omega) (fun c_10 => ?_) (fun c_10 => ?_)
              · omega
              · skip
                refine lv_aload_n hx hb dX6_findFault_68 rfl (lv_at hl 3 rfl) ?_
                refine va_get (D := (dC, dI)) (ci := 6) (v := .ref (ma 38)) (C := RX6) (T := TX6) (N := 44) hx hb hts kt_X6 hown hK hP 0 rfl rfl 38 (by decide) (kx_word hG kq_09_mput_5 rfl) (fun _ h9 => h9) rfl dX6_findFault_69 ?_
                refine lv_iload_n hx hb dX6_findFault_72 rfl (lv_at hl 2 rfl) ?_
                refine lv_iload_n hx hb dX6_findFault_73 rfl (lv_at hl 1 rfl) ?_
                refine ki_iast (F := G 38) hx hb hK hP hD hS 26 25 rfl rfl (by omega) (by omega) (by decide) dX6_findFault_74 (fun H locs hP hD hS => ?_)
                have hP : va_P (dC, dI) kxCl (mW mo ma cs I (va_up G 38 (upI (G 38) nb k))) H := hP
                have hD : va_D A (mW mo ma cs I (va_up G 38 (upI (G 38) nb k))) := hD
                refine lv_iinc (v := iz (nb + 1)) (lv' := [(1, .int (iz (nb + 1))), (3, .int (iz (G 36 k))), (2, .int (iz k)), (0, .ref mo)]) hx hb dX6_findFault_75 hl (k := 2) rfl (iz_add nb 1) (by decide) rfl (fun ls hl => ?_)
                refine lv_iload_n hx hb dX6_findFault_78 rfl (lv_at hl 1 rfl) ?_
                refine lv_bipush (v := iz 37) hx hb dX6_findFault_79 (by decide) ?_
                refine ki_icmp_ne (tgt := 90) hx hb dX6_findFault_81 (by decide) (by omega) (by omega) (by omega) (by omega) (fun c_11 => ?_) (fun c_11 => ?_)
                · skip
                  refine lv_iload_n hx hb dX6_findFault_90 rfl (lv_at hl 2 rfl) ?_
                  refine lv_iconst (v := iz 1) hx hb dX6_findFault_91 (by decide) ?_
                  refine ki_iadd hx hb dX6_findFault_92 ?_
                  refine lv_istore_n (lv' := [(2, .int (iz (k + 1))), (1, .int (iz (nb + 1))), (3, .int (iz (G 36 k))), (0, .ref mo)]) hx hb dX6_findFault_93 rfl hl (by decide) rfl (fun ls hl => ?_)
                  refine lv_goto (tgt := 4) hx hb dX6_findFault_94 (by decide) ?_
                  exact ih4 (nb + 1) (k + 1) (va_up G 38 (upI (G 38) nb k)) ⟨(mB_f hBG 38 nb (by omega) (by omega)), (mfr.upF hfG (by decide) _), by omega, by omega, mBr.add hbr rfl (by omega)⟩ (by omega) _ _ hP hD hS ls (lv_sub hl [0, 1, 3] rfl)
                · omega
            · skip
              refine lv_iload_n hx hb dX6_findFault_60 rfl (lv_at hl 1 rfl) ?_
              rw [← hQe]
              exact mk_ireti hx hb hr hlocks hP hD hK hS dX6_findFault_61 (⟨rfl, hBG, hfG, by omega, fun h => absurd h (by omega)⟩)
        · skip
          refine lv_iload_n hx hb dX6_findFault_25 rfl (lv_at hl 1 rfl) ?_
          refine lv_iconst (v := iz 1) hx hb dX6_findFault_26 (by decide) ?_
          refine ki_iadd hx hb dX6_findFault_27 ?_
          refine lv_aload_n hx hb dX6_findFault_28 rfl (lv_at hl 3 rfl) ?_
          refine va_get (D := (dC, dI)) (ci := 6) (v := .int (iz (I 37))) (C := RX6) (T := TX6) (N := 44) hx hb hts kt_X6 hown hK hP 0 rfl rfl 37 (by decide) (kx_word hG kq_04_msmall_19 rfl) (fun _ h9 => h9) rfl dX6_findFault_29 ?_
          refine ki_icmp_eq (tgt := 60) hx hb dX6_findFault_32 (by decide) (by omega) (by omega) (by omega) (by omega) (fun c_12 => ?_) (fun c_12 => ?_)
          · skip
            refine lv_iload_n hx hb dX6_findFault_60 rfl (lv_at hl 1 rfl) ?_
            rw [← hQe]
            exact mk_ireti hx hb hr hlocks hP hD hK hS dX6_findFault_61 (⟨rfl, hBG, hfG, by omega, fun h => absurd h (by omega)⟩)
          · skip
            refine lv_aload_n hx hb dX6_findFault_35 rfl (lv_at hl 3 rfl) ?_
            refine va_get (D := (dC, dI)) (ci := 6) (v := .ref (ma 36)) (C := RX6) (T := TX6) (N := 44) hx hb hts kt_X6 hown hK hP 0 rfl rfl 36 (by decide) (kx_word hG kq_04_msmall_20 rfl) (fun _ h9 => h9) rfl dX6_findFault_36 ?_
            refine lv_iload_n hx hb dX6_findFault_39 rfl (lv_at hl 1 rfl) ?_
            refine lv_iconst (v := iz 1) hx hb dX6_findFault_40 (by decide) ?_
            refine ki_iadd hx hb dX6_findFault_41 ?_
            refine ki_iald (F := G 36) hx hb hK hP 25 24 rfl rfl (by omega) (by omega) (by decide) dX6_findFault_42 ?_
            have hbd_13 := hBG.2 36 (k + 1)
            refine mk_calls (As := [.int (iz (G 36 (k + 1)))]) (rest := []) ⟨hx, hb, hml, hown, hts⟩ (k_isMark l dC dI (G 36 (k + 1)) H.size (by omega) (by omega)) (va_cwS 1 hts (kx_gS kq_09_mput_6 kq_09_mput_7 kq_04_msmall_6 kq_09_mput_8 rfl) rfl rfl rfl (by decide +kernel) ⟨Nat.le_of_ble_eq_true rfl, Nat.le_of_ble_eq_true rfl⟩) hP hD hK hG hZ hS hA rfl hl.1 rfl (Nat.le_of_ble_eq_true rfl) dX6_findFault_43 ⟨Nat.le_of_ble_eq_true rfl, Nat.le_of_ble_eq_true rfl⟩ (fun z_14 H locs hq_15 hP hS => ?_)
            try dsimp only at hq_15
            refine ki_if_eq (tgt := 60) hx hb dX6_findFault_46 (by decide) (by omega) (by omega) (fun c_16 => ?_) (fun c_16 => ?_)
            · skip
              refine lv_iload_n hx hb dX6_findFault_60 rfl (lv_at hl 1 rfl) ?_
              rw [← hQe]
              exact mk_ireti hx hb hr hlocks hP hD hK hS dX6_findFault_61 (⟨rfl, hBG, hfG, by omega, fun h => absurd h (by omega)⟩)
            · skip
              refine lv_iload_n hx hb dX6_findFault_49 rfl (lv_at hl 0 rfl) ?_
              refine lv_bipush (v := iz 124) hx hb dX6_findFault_50 (by decide) ?_
              refine ki_icmp_ne (tgt := 62) hx hb dX6_findFault_52 (by decide) (by omega) (by omega) (by omega) (by omega) (fun c_17 => ?_) (fun c_17 => ?_)
              · skip
                refine lv_iload_n hx hb dX6_findFault_62 rfl (lv_at hl 0 rfl) ?_
                refine lv_bipush (v := iz 124) hx hb dX6_findFault_63 (by decide) ?_
                refine ki_icmp_ne (tgt := 78) hx hb dX6_findFault_65 (by decide) (by omega) (by omega) (by omega) (by omega) (fun c_18 => ?_) (fun c_18 => ?_)
                · skip
                  refine lv_iload_n hx hb dX6_findFault_78 rfl (lv_at hl 0 rfl) ?_
                  refine lv_bipush (v := iz 37) hx hb dX6_findFault_79 (by decide) ?_
                  refine ki_icmp_ne (tgt := 90) hx hb dX6_findFault_81 (by decide) (by omega) (by omega) (by omega) (by omega) (fun c_19 => ?_) (fun c_19 => ?_)
                  · omega
                  · skip
                    refine lv_iload_n hx hb dX6_findFault_84 rfl (lv_at hl 1 rfl) ?_
                    refine lv_iconst (v := iz 2) hx hb dX6_findFault_85 (by decide) ?_
                    refine ki_iadd hx hb dX6_findFault_86 ?_
                    refine lv_goto (tgt := 93) hx hb dX6_findFault_87 (by decide) ?_
                    refine lv_istore_n (lv' := [(2, .int (iz (k + 2))), (3, .int (iz (G 36 k))), (1, .int (iz nb)), (0, .ref mo)]) hx hb dX6_findFault_93 rfl hl (by decide) rfl (fun ls hl => ?_)
                    refine lv_goto (tgt := 4) hx hb dX6_findFault_94 (by decide) ?_
                    exact ih4 nb (k + 2) G ⟨hBG, hfG, by omega, by omega, hbr⟩ (by omega) _ _ hP hD hS ls (lv_sub hl [0, 2, 3] rfl)
                · omega
              · omega
  exact lp4 _ 0 0 F ⟨hB, mfr.rf, by omega, by omega, fun j a b => absurd b (by omega)⟩ (Nat.lt_succ_self _) _ _ hP hD hS ls (lv_sub hl [0, 1, 2] rfl)
set_option maxHeartbeats 4000000 in
set_option maxRecDepth 100000 in
theorem k_put (l : Launch) (dC : Nat → ClassId) (dI : Nat → Nat → Nat) (mo : Nat) (ma : Nat → Nat) (cs : Nat → ClassId) (I : Nat → Int) (F : Nat → Int → Int) (p0 : Int) (sz : Nat) (hB : mB I F) (hdr : mDr I) : mMv l yX6_put (.code yX6_put cX6_put 2 none) 0 0 dC dI mo ma cs I F [.ref mo, .int (iz p0)] sz (fun (I' : Nat → Int) (F' : Nat → Int → Int) => mB I' F' ∧ mfr [42, 43] [41] I F I' F' ∧ mDr I') := by
  refine Met.ofW (cc := cX6_put) (maxL := 2) (ret := none) (by decide) rfl ?_
  intro p e s m args below meth c s₁ B hml hv
  obtain ⟨rfl, hsz, hP, hK, hD0, hG, hZ⟩ := hv
  have hx := B.exec
  have hb := B.bytes
  have hr := B.returns
  have hts := kx_hts (a := ([.ref mo, .int (iz p0)] : List Value).toArray) hG
  have hown : s.vm.findClass RX6 = some m.cls := findClass_of_methodNamed B.named
  have hlocks := B.notSynchronized
  subst hsz
  have hD := hD0.self (sz := s.heap.size)
  generalize hAe : va_A (mW mo ma cs I F) s.heap.size = A at hD hZ ⊢
  have hA : ∀ q : Nat, s.heap.size ≤ q → A q := fun q h => by rw [← hAe]; exact Or.inr h
  have hS : va_S A s.heap s.heap [] := va_S.rf
  have hl := lv_entry ([.ref mo, .int (iz p0)]) (n := 2) (Nat.le_of_ble_eq_true rfl)
  rw [lg_entry_eq]
  generalize (lg_sl ([.ref mo, .int (iz p0)]) ++ List.replicate (2 - (lg_sl ([.ref mo, .int (iz p0)])).length) Slot.unset).toArray = ls at hl ⊢
  have hl : lv_has ls 2 [(0, .ref mo), (1, .int (iz p0))] := hl
  have hd9 : 0 ≤ I 42 ∧ I 42 ≤ 6000 := ⟨hdr.1, hdr.2.1⟩
  refine lv_aload_n hx hb dX6_put_0 rfl (lv_at hl 0 rfl) ?_
  refine va_get (D := (dC, dI)) (ci := 6) (v := .int (iz (I 42))) (C := RX6) (T := TX6) (N := 44) hx hb hts kt_X6 hown hK hP 0 rfl rfl 42 (by decide) (kx_word hG kq_09_mput_9 rfl) (fun _ h9 => h9) rfl dX6_put_1 ?_
  have hbd_1 := hB.1 42
  refine lv_sipush (v := iz 6000) hx hb dX6_put_4 (by decide) ?_
  refine ki_icmp_ne (tgt := 16) hx hb dX6_put_7 (by decide) (by omega) (by omega) (by omega) (by omega) (fun c_2 => ?_) (fun c_2 => ?_)
  · skip
    refine lv_aload_n hx hb dX6_put_16 rfl (lv_at hl 0 rfl) ?_
    refine va_get (D := (dC, dI)) (ci := 6) (v := .ref (ma 41)) (C := RX6) (T := TX6) (N := 44) hx hb hts kt_X6 hown hK hP 0 rfl rfl 41 (by decide) (kx_word hG kq_09_mput_10 rfl) (fun _ h9 => h9) rfl dX6_put_17 ?_
    refine lv_aload_n hx hb dX6_put_20 rfl (lv_at hl 0 rfl) ?_
    refine va_get (D := (dC, dI)) (ci := 6) (v := .int (iz (I 42))) (C := RX6) (T := TX6) (N := 44) hx hb hts kt_X6 hown hK hP 0 rfl rfl 42 (by decide) (kx_word hG kq_09_mput_9 rfl) (fun _ h9 => h9) rfl dX6_put_21 ?_
    refine lv_iload_n hx hb dX6_put_24 rfl (lv_at hl 1 rfl) ?_
    refine lv_i2b hx hb dX6_put_25 rfl ?_
    refine ki_any (fun z_3 hz_3a hz_3b => ?_)
    refine ki_bast (F := F 41) hx hb hK hP hD hS 28 27 rfl rfl (by omega) (by omega) (by decide) dX6_put_26 (fun H locs hP hD hS => ?_)
    have hP : va_P (dC, dI) kxCl (mW mo ma cs I (va_up F 41 (upI (F 41) (I 42) (vp_nar .byte (iz z_3)).toInt))) H := hP
    have hD : va_D A (mW mo ma cs I (va_up F 41 (upI (F 41) (I 42) (vp_nar .byte (iz z_3)).toInt))) := hD
    refine lv_aload_n hx hb dX6_put_27 rfl (lv_at hl 0 rfl) ?_
    refine lv_dup hx hb dX6_put_28 rfl ?_
    refine va_get (D := (dC, dI)) (ci := 6) (v := .int (iz (I 42))) (C := RX6) (T := TX6) (N := 44) hx hb hts kt_X6 hown hK hP 0 rfl rfl 42 (by decide) (kx_word hG kq_09_mput_9 rfl) (fun _ h9 => h9) rfl dX6_put_29 ?_
    refine lv_iconst (v := iz 1) hx hb dX6_put_32 (by decide) ?_
    refine ki_iadd hx hb dX6_put_33 ?_
    refine va_put (D := (dC, dI)) (ci := 6) (v := .int (iz ((I 42) + 1))) (ty := .int) (C := RX6) (T := TX6) (N := 44) hx hb hts kt_X6 tyX6 tyX6_ok nmX6 hown hK hP hD hS 0 rfl rfl 42 (by decide) (kx_word hG kq_09_mput_9 rfl) (fun _ h9 => h9) rfl (by decide +kernel) rfl rfl (Nat.le_of_ble_eq_true rfl) dX6_put_34 (fun H locs hP hD hS => ?_)
    have hP : va_P (dC, dI) kxCl (mW mo ma cs (va_up I 42 ((I 42) + 1)) (va_up F 41 (upI (F 41) (I 42) (vp_nar .byte (iz z_3)).toInt))) H := hP
    have hD : va_D A (mW mo ma cs (va_up I 42 ((I 42) + 1)) (va_up F 41 (upI (F 41) (I 42) (vp_nar .byte (iz z_3)).toInt))) := hD
    exact mk_ret hx hb hr hlocks hP hD hK hS dX6_put_37 (⟨(mB_f (mB_i hB 42 (by omega) (by omega)) 41 (I 42) (iz_lo _) (iz_hi _)), (mfr.upF (mfr.upI mfr.rf (by decide) _) (by decide) _), by simp [mDr, va_up] at hdr ⊢; omega⟩)
  · skip
    refine lv_aload_n hx hb dX6_put_10 rfl (lv_at hl 0 rfl) ?_
    refine lv_iconst (v := iz 1) hx hb dX6_put_11 (by decide) ?_
    refine va_put (D := (dC, dI)) (ci := 6) (v := .int (iz 1)) (ty := .boolean) (C := RX6) (T := TX6) (N := 44) hx hb hts kt_X6 tyX6 tyX6_ok nmX6 hown hK hP hD hS 0 rfl rfl 43 (by decide) (kx_word hG kq_09_mput_11 rfl) (fun _ h9 => h9) rfl (by decide +kernel) (mz_bool (Or.inr rfl)).1 (mz_bool (Or.inr rfl)).2 (Nat.le_of_ble_eq_true rfl) dX6_put_12 (fun H locs hP hD hS => ?_)
    have hP : va_P (dC, dI) kxCl (mW mo ma cs (va_up I 43 1) F) H := hP
    have hD : va_D A (mW mo ma cs (va_up I 43 1) F) := hD
    exact mk_ret hx hb hr hlocks hP hD hK hS dX6_put_15 (⟨(mB_i hB 43 (by omega) (by omega)), (mfr.upI mfr.rf (by decide) _), by simp [mDr, va_up] at hdr ⊢; omega⟩)
set_option maxHeartbeats 4000000 in
set_option maxRecDepth 100000 in
theorem k_putPair (l : Launch) (dC : Nat → ClassId) (dI : Nat → Nat → Nat) (mo : Nat) (ma : Nat → Nat) (cs : Nat → ClassId) (I : Nat → Int) (F : Nat → Int → Int) (p0 : Int) (p1 : Int) (sz : Nat) (hB : mB I F) (hdr : mDr I) : mMv l yX6_putPair (.code yX6_putPair cX6_putPair 3 none) 1 21 dC dI mo ma cs I F [.ref mo, .int (iz p0), .int (iz p1)] sz (fun (I' : Nat → Int) (F' : Nat → Int → Int) => mB I' F' ∧ mfr [42, 43] [41] I F I' F' ∧ mDr I') := by
  refine Met.ofW (cc := cX6_putPair) (maxL := 3) (ret := none) (by decide) rfl ?_
  intro p e s m args below meth c s₁ B hml hv
  obtain ⟨rfl, hsz, hP, hK, hD0, hG, hZ⟩ := hv
  have hx := B.exec
  have hb := B.bytes
  have hr := B.returns
  have hts := kx_hts (a := ([.ref mo, .int (iz p0), .int (iz p1)] : List Value).toArray) hG
  have hown : s.vm.findClass RX6 = some m.cls := findClass_of_methodNamed B.named
  have hlocks := B.notSynchronized
  subst hsz
  have hD := hD0.self (sz := s.heap.size)
  generalize hAe : va_A (mW mo ma cs I F) s.heap.size = A at hD hZ ⊢
  have hA : ∀ q : Nat, s.heap.size ≤ q → A q := fun q h => by rw [← hAe]; exact Or.inr h
  have hS : va_S A s.heap s.heap [] := va_S.rf
  have hl := lv_entry ([.ref mo, .int (iz p0), .int (iz p1)]) (n := 3) (Nat.le_of_ble_eq_true rfl)
  rw [lg_entry_eq]
  generalize (lg_sl ([.ref mo, .int (iz p0), .int (iz p1)]) ++ List.replicate (3 - (lg_sl ([.ref mo, .int (iz p0), .int (iz p1)])).length) Slot.unset).toArray = ls at hl ⊢
  have hl : lv_has ls 3 [(0, .ref mo), (1, .int (iz p0)), (2, .int (iz p1))] := hl
  refine lv_aload_n hx hb dX6_putPair_0 rfl (lv_at hl 0 rfl) ?_
  refine lv_iload_n hx hb dX6_putPair_1 rfl (lv_at hl 1 rfl) ?_
  refine mk_callv (As := [.int (iz p0)]) (rest := []) ⟨hx, hb, hml, hown, hts⟩ (k_put l dC dI mo ma cs I F p0 s.heap.size hB hdr) (cwV 1 hts (kx_gV kq_09_mput_12 kq_09_mput_13 kq_09_mput_14 kq_04_msmall_6 kq_09_mput_15 rfl) rfl rfl rfl (by decide +kernel) ⟨Nat.le_of_ble_eq_true rfl, Nat.le_of_ble_eq_true rfl⟩) hP hD hK hG hZ hS hA rfl hl.1 rfl (Nat.le_of_ble_eq_true rfl) dX6_putPair_2 ⟨Nat.le_of_ble_eq_true rfl, Nat.le_of_ble_eq_true rfl⟩ (fun I_3 F_4 H locs hq_2 hP hD hS => ?_)
  try dsimp only at hq_2
  obtain ⟨hB5, hf5, hd5⟩ := hq_2
  refine lv_aload_n hx hb dX6_putPair_5 rfl (lv_at hl 0 rfl) ?_
  refine lv_iload_n hx hb dX6_putPair_6 rfl (lv_at hl 2 rfl) ?_
  refine mk_callv (As := [.int (iz p1)]) (rest := []) ⟨hx, hb, hml, hown, hts⟩ (k_put l dC dI mo ma cs I_3 F_4 p1 H.size hB5 hd5) (cwV 1 hts (kx_gV kq_09_mput_12 kq_09_mput_13 kq_09_mput_14 kq_04_msmall_6 kq_09_mput_15 rfl) rfl rfl rfl (by decide +kernel) ⟨Nat.le_of_ble_eq_true rfl, Nat.le_of_ble_eq_true rfl⟩) hP hD hK hG hZ hS hA rfl hl.1 rfl (Nat.le_of_ble_eq_true rfl) dX6_putPair_7 ⟨Nat.le_of_ble_eq_true rfl, Nat.le_of_ble_eq_true rfl⟩ (fun I_8 F_9 H locs hq_7 hP hD hS => ?_)
  try dsimp only at hq_7
  obtain ⟨hB10, hf10, hd10⟩ := hq_7
  exact mk_ret hx hb hr hlocks hP hD hK hS dX6_putPair_10 (⟨hB10, ((mfr.rf.tr (hf5.mono (by decide) (by decide))).tr (hf10.mono (by decide) (by decide))), hd10⟩)
set_option maxHeartbeats 4000000 in
set_option maxRecDepth 100000 in
theorem k_putSigns (l : Launch) (dC : Nat → ClassId) (dI : Nat → Nat → Nat) (mo : Nat) (ma : Nat → Nat) (cs : Nat → ClassId) (I : Nat → Int) (F : Nat → Int → Int) (p0 : Int) (sz : Nat) (hB : mB I F) (hdr : mDr I) (hn : ∀ e, 0 ≤ F 5 e ∧ F 5 e ≤ 20) (h0 : 0 ≤ p0 ∧ p0 < 80) : mMv l yX6_putSigns (.code yX6_putSigns cX6_putSigns 3 none) 1 21 dC dI mo ma cs I F [.ref mo, .int (iz p0)] sz (fun (I' : Nat → Int) (F' : Nat → Int → Int) => mB I' F' ∧ mfr [42, 43] [41] I F I' F' ∧ mDr I') := by
  refine Met.ofW (cc := cX6_putSigns) (maxL := 3) (ret := none) (by decide) rfl ?_
  intro p e s m args below meth c s₁ B hml hv
  obtain ⟨rfl, hsz, hP, hK, hD0, hG, hZ⟩ := hv
  have hx := B.exec
  have hb := B.bytes
  have hr := B.returns
  have hts := kx_hts (a := ([.ref mo, .int (iz p0)] : List Value).toArray) hG
  have hown : s.vm.findClass RX6 = some m.cls := findClass_of_methodNamed B.named
  have hlocks := B.notSynchronized
  subst hsz
  have hD := hD0.self (sz := s.heap.size)
  generalize hAe : va_A (mW mo ma cs I F) s.heap.size = A at hD hZ ⊢
  have hA : ∀ q : Nat, s.heap.size ≤ q → A q := fun q h => by rw [← hAe]; exact Or.inr h
  have hS : va_S A s.heap s.heap [] := va_S.rf
  have hl := lv_entry ([.ref mo, .int (iz p0)]) (n := 3) (Nat.le_of_ble_eq_true rfl)
  rw [lg_entry_eq]
  generalize (lg_sl ([.ref mo, .int (iz p0)]) ++ List.replicate (3 - (lg_sl ([.ref mo, .int (iz p0)])).length) Slot.unset).toArray = ls at hl ⊢
  have hl : lv_has ls 3 [(0, .ref mo), (1, .int (iz p0))] := hl
  generalize hQe : MQ below (mQv dC dI mo ma cs A (fun (I' : Nat → Int) (F' : Nat → Int → Int) => mB I' F' ∧ mfr [42, 43] [41] I F I' F' ∧ mDr I')) ([.ref mo, .int (iz p0)] : List Value).toArray s 0 0 A = QQ
  have hnp := hn p0
  refine lv_iconst (v := iz 0) hx hb dX6_putSigns_0 (by decide) ?_
  refine lv_istore_n (lv' := [(2, .int (iz 0)), (0, .ref mo), (1, .int (iz p0))]) hx hb dX6_putSigns_1 rfl hl (by decide) rfl (fun ls hl => ?_)
  have lp2 : ∀ (n : Nat) (k : Int) (J : Nat → Int) (G : Nat → Int → Int), ((mB J G) ∧ (mfr [42, 43] [41] I F J G) ∧ (mDr J) ∧ (0 ≤ k ∧ k ≤ 20)) → (F 5 p0 - k).toNat < n → ∀ (H : Heap) (locs : List Loc), va_P (dC, dI) kxCl (mW mo ma cs J G) H → va_D A (mW mo ma cs J G) → va_S A s.heap H locs → ∀ ls : Array Slot, lv_has ls 3 [(2, .int (iz k)), (0, .ref mo), (1, .int (iz p0))] → W p l e (headSpec [.code yX6_putSigns cX6_putSigns 3 none] ({ frames := 1, cells := 0, slots := 0, locals := 21 })).room s m ([.ref mo, .int (iz p0)] : List Value).toArray below meth c H locs 0 0 QQ (F0 m 2 ls []) := by
    intro n
    induction n with
    | zero => intro k J G hinv hm; exact absurd hm (Nat.not_lt_zero _)
    | succ n ih2 =>
      intro k J G hinv hm H locs hP hD hS ls hl
      obtain ⟨hBJ, hfJ, hdJ, hk⟩ := hinv
      have e5 := congrFun (hfJ.2 5 (by decide)) p0
      refine lv_iload_n hx hb dX6_putSigns_2 rfl (lv_at hl 0 rfl) ?_
      refine lv_aload_n hx hb dX6_putSigns_3 rfl (lv_at hl 1 rfl) ?_
      refine va_get (D := (dC, dI)) (ci := 6) (v := .ref (ma 5)) (C := RX6) (T := TX6) (N := 44) hx hb hts kt_X6 hown hK hP 0 rfl rfl 5 (by decide) (kx_word hG kq_04_msmall_15 rfl) (fun _ h9 => h9) rfl dX6_putSigns_4 ?_
      refine lv_iload_n hx hb dX6_putSigns_7 rfl (lv_at hl 2 rfl) ?_
      refine ki_iald (F := G 5) hx hb hK hP 4 3 rfl rfl (by omega) (by omega) (by decide) dX6_putSigns_8 ?_
      have hbd_1 := hBJ.2 5 p0
      refine ki_icmp_ge (tgt := 33) hx hb dX6_putSigns_9 (by decide) (by omega) (by omega) (by omega) (by omega) (fun c_2 => ?_) (fun c_2 => ?_)
      · skip
        rw [← hQe]
        exact mk_ret hx hb hr hlocks hP hD hK hS dX6_putSigns_33 (⟨hBJ, hfJ, hdJ⟩)
      · skip
        refine lv_aload_n hx hb dX6_putSigns_12 rfl (lv_at hl 1 rfl) ?_
        refine lv_aload_n hx hb dX6_putSigns_13 rfl (lv_at hl 1 rfl) ?_
        refine va_get (D := (dC, dI)) (ci := 6) (v := .ref (ma 4)) (C := RX6) (T := TX6) (N := 44) hx hb hts kt_X6 hown hK hP 0 rfl rfl 4 (by decide) (kx_word hG kq_04_msmall_16 rfl) (fun _ h9 => h9) rfl dX6_putSigns_14 ?_
        refine lv_bipush (v := iz 20) hx hb dX6_putSigns_17 (by decide) ?_
        refine lv_iload_n hx hb dX6_putSigns_19 rfl (lv_at hl 2 rfl) ?_
        refine ki_imul hx hb dX6_putSigns_20 ?_
        refine lv_iload_n hx hb dX6_putSigns_21 rfl (lv_at hl 0 rfl) ?_
        refine ki_iadd hx hb dX6_putSigns_22 ?_
        refine ki_iald (F := G 4) hx hb hK hP 3 2 rfl rfl (by omega) (by omega) (by decide) dX6_putSigns_23 ?_
        have hbd_3 := hBJ.2 4 ((20 * p0) + k)
        refine mk_callv (As := [.int (iz (G 4 ((20 * p0) + k)))]) (rest := []) ⟨hx, hb, hml, hown, hts⟩ (k_put l dC dI mo ma cs J G (G 4 ((20 * p0) + k)) H.size hBJ hdJ) (cwV 1 hts (kx_gV kq_09_mput_12 kq_09_mput_13 kq_09_mput_14 kq_04_msmall_6 kq_09_mput_15 rfl) rfl rfl rfl (by decide +kernel) ⟨Nat.le_of_ble_eq_true rfl, Nat.le_of_ble_eq_true rfl⟩) hP hD hK hG hZ hS hA rfl hl.1 rfl (Nat.le_of_ble_eq_true rfl) dX6_putSigns_24 ⟨Nat.le_of_ble_eq_true rfl, Nat.le_of_ble_eq_true rfl⟩ (fun I_6 F_7 H locs hq_5 hP hD hS => ?_)
        try dsimp only at hq_5
        obtain ⟨hB8, hf8, hd8⟩ := hq_5
        refine lv_iinc (v := iz (k + 1)) (lv' := [(2, .int (iz (k + 1))), (0, .ref mo), (1, .int (iz p0))]) hx hb dX6_putSigns_27 hl (k := 0) rfl (iz_add k 1) (by decide) rfl (fun ls hl => ?_)
        refine lv_goto (tgt := 2) hx hb dX6_putSigns_30 (by decide) ?_
        exact ih2 (k + 1) I_6 F_7 ⟨hB8, (hfJ.tr (hf8.mono (by decide) (by decide))), hd8, by omega⟩ (by omega) _ _ hP hD hS ls (lv_sub hl [0, 1, 2] rfl)
  exact lp2 _ 0 I F ⟨hB, mfr.rf, hdr, by omega⟩ (Nat.lt_succ_self _) _ _ hP hD hS ls (lv_sub hl [0, 1, 2] rfl)
set_option maxHeartbeats 4000000 in
set_option maxRecDepth 100000 in
theorem k_putNumber (l : Launch) (dC : Nat → ClassId) (dI : Nat → Nat → Nat) (mo : Nat) (ma : Nat → Nat) (cs : Nat → ClassId) (I : Nat → Int) (F : Nat → Int → Int) (p0 : Int) (sz : Nat) (hB : mB I F) (hdr : mDr I) (h0 : 0 ≤ p0 ∧ p0 < 2147483648) : mMv l yX6_putNumber (.code yX6_putNumber cX6_putNumber 3 none) 1 21 dC dI mo ma cs I F [.ref mo, .int (iz p0)] sz (fun (I' : Nat → Int) (F' : Nat → Int → Int) => mB I' F' ∧ mfr [42, 43] [41] I F I' F' ∧ mDr I') := by
  refine Met.ofW (cc := cX6_putNumber) (maxL := 3) (ret := none) (by decide) rfl ?_
  intro p e s m args below meth c s₁ B hml hv
  obtain ⟨rfl, hsz, hP, hK, hD0, hG, hZ⟩ := hv
  have hx := B.exec
  have hb := B.bytes
  have hr := B.returns
  have hts := kx_hts (a := ([.ref mo, .int (iz p0)] : List Value).toArray) hG
  have hown : s.vm.findClass RX6 = some m.cls := findClass_of_methodNamed B.named
  have hlocks := B.notSynchronized
  subst hsz
  have hD := hD0.self (sz := s.heap.size)
  generalize hAe : va_A (mW mo ma cs I F) s.heap.size = A at hD hZ ⊢
  have hA : ∀ q : Nat, s.heap.size ≤ q → A q := fun q h => by rw [← hAe]; exact Or.inr h
  have hS : va_S A s.heap s.heap [] := va_S.rf
  have hl := lv_entry ([.ref mo, .int (iz p0)]) (n := 3) (Nat.le_of_ble_eq_true rfl)
  rw [lg_entry_eq]
  generalize (lg_sl ([.ref mo, .int (iz p0)]) ++ List.replicate (3 - (lg_sl ([.ref mo, .int (iz p0)])).length) Slot.unset).toArray = ls at hl ⊢
  have hl : lv_has ls 3 [(0, .ref mo), (1, .int (iz p0))] := hl
  generalize hQe : MQ below (mQv dC dI mo ma cs A (fun (I' : Nat → Int) (F' : Nat → Int → Int) => mB I' F' ∧ mfr [42, 43] [41] I F I' F' ∧ mDr I')) ([.ref mo, .int (iz p0)] : List Value).toArray s 0 0 A = QQ
  refine lv_iconst (v := iz 1) hx hb dX6_putNumber_0 (by decide) ?_
  refine lv_istore_n (lv' := [(2, .int (iz 1)), (0, .ref mo), (1, .int (iz p0))]) hx hb dX6_putNumber_1 rfl hl (by decide) rfl (fun ls hl => ?_)
  have lp2 : ∀ (n : Nat) (u : Int), ((1 ≤ u ∧ (u = 1 ∨ u ≤ p0))) → (p0 - u).toNat < n → ∀ (H : Heap) (locs : List Loc), va_P (dC, dI) kxCl (mW mo ma cs I F) H → va_D A (mW mo ma cs I F) → va_S A s.heap H locs → ∀ ls : Array Slot, lv_has ls 3 [(2, .int (iz u)), (0, .ref mo), (1, .int (iz p0))] → W p l e (headSpec [.code yX6_putNumber cX6_putNumber 3 none] ({ frames := 1, cells := 0, slots := 0, locals := 21 })).room s m ([.ref mo, .int (iz p0)] : List Value).toArray below meth c H locs 0 0 QQ (F0 m 2 ls []) := by
    intro n
    induction n with
    | zero => intro u hinv hm; exact absurd hm (Nat.not_lt_zero _)
    | succ n ih2 =>
      intro u hinv hm H locs hP hD hS ls hl
      have hu := hinv
      refine lv_iload_n hx hb dX6_putNumber_2 rfl (lv_at hl 2 rfl) ?_
      refine lv_iload_n hx hb dX6_putNumber_3 rfl (lv_at hl 0 rfl) ?_
      have hq0 : 0 ≤ p0 / u := Int.ediv_nonneg h0.1 (by omega)
      have hq1 : p0 / u ≤ p0 := Int.ediv_le_self u h0.1
      refine ki_idiv hx hb dX6_putNumber_4 (by omega) (by omega) (by omega) (by omega) ?_
      refine lv_bipush (v := iz 9) hx hb dX6_putNumber_5 (by decide) ?_
      refine ki_icmp_le (tgt := 18) hx hb dX6_putNumber_7 (by decide) (by omega) (by omega) (by omega) (by omega) (fun c_1 => ?_) (fun c_1 => ?_)
      · skip
        have lp18 : ∀ (n : Nat) (w : Int) (J1 : Nat → Int) (G1 : Nat → Int → Int), ((mB J1 G1) ∧ (mfr [42, 43] [41] I F J1 G1) ∧ (mDr J1) ∧ (0 ≤ w ∧ w < 2147483648)) → (w).toNat < n → ∀ (H : Heap) (locs : List Loc), va_P (dC, dI) kxCl (mW mo ma cs J1 G1) H → va_D A (mW mo ma cs J1 G1) → va_S A s.heap H locs → ∀ ls : Array Slot, lv_has ls 3 [(2, .int (iz w)), (0, .ref mo), (1, .int (iz p0))] → W p l e (headSpec [.code yX6_putNumber cX6_putNumber 3 none] ({ frames := 1, cells := 0, slots := 0, locals := 21 })).room s m ([.ref mo, .int (iz p0)] : List Value).toArray below meth c H locs 0 0 QQ (F0 m 18 ls []) := by
          intro n
          induction n with
          | zero => intro w J1 G1 hinv hm; exact absurd hm (Nat.not_lt_zero _)
          | succ n ih18 =>
            intro w J1 G1 hinv hm H locs hP hD hS ls hl
            obtain ⟨hBJ, hfJ, hdJ, hw⟩ := hinv
            refine lv_iload_n hx hb dX6_putNumber_18 rfl (lv_at hl 0 rfl) ?_
            refine ki_if_le (tgt := 43) hx hb dX6_putNumber_19 (by decide) (by omega) (by omega) (fun c_2 => ?_) (fun c_2 => ?_)
            · skip
              rw [← hQe]
              exact mk_ret hx hb hr hlocks hP hD hK hS dX6_putNumber_43 (⟨hBJ, hfJ, hdJ⟩)
            · skip
              refine lv_aload_n hx hb dX6_putNumber_22 rfl (lv_at hl 1 rfl) ?_
              refine lv_bipush (v := iz 48) hx hb dX6_putNumber_23 (by decide) ?_
              refine lv_iload_n hx hb dX6_putNumber_25 rfl (lv_at hl 2 rfl) ?_
              refine lv_iload_n hx hb dX6_putNumber_26 rfl (lv_at hl 0 rfl) ?_
              have hq0 : 0 ≤ p0 / w := Int.ediv_nonneg h0.1 (by omega)
              have hq1 : p0 / w ≤ p0 := Int.ediv_le_self w h0.1
              refine ki_idiv hx hb dX6_putNumber_27 (by omega) (by omega) (by omega) (by omega) ?_
              refine lv_bipush (v := iz 10) hx hb dX6_putNumber_28 (by decide) ?_
              refine ki_irem hx hb dX6_putNumber_30 (by omega) (by omega) (by omega) (by omega) ?_
              refine ki_iadd hx hb dX6_putNumber_31 ?_
              refine mk_callv (As := [.int (iz (48 + ((p0 / w) % 10)))]) (rest := []) ⟨hx, hb, hml, hown, hts⟩ (k_put l dC dI mo ma cs J1 G1 (48 + ((p0 / w) % 10)) H.size hBJ hdJ) (cwV 1 hts (kx_gV kq_09_mput_12 kq_09_mput_13 kq_09_mput_14 kq_04_msmall_6 kq_09_mput_15 rfl) rfl rfl rfl (by decide +kernel) ⟨Nat.le_of_ble_eq_true rfl, Nat.le_of_ble_eq_true rfl⟩) hP hD hK hG hZ hS hA rfl hl.1 rfl (Nat.le_of_ble_eq_true rfl) dX6_putNumber_32 ⟨Nat.le_of_ble_eq_true rfl, Nat.le_of_ble_eq_true rfl⟩ (fun I_5 F_6 H locs hq_4 hP hD hS => ?_)
              try dsimp only at hq_4
              obtain ⟨hB7, hf7, hd7⟩ := hq_4
              refine lv_iload_n hx hb dX6_putNumber_35 rfl (lv_at hl 0 rfl) ?_
              refine lv_bipush (v := iz 10) hx hb dX6_putNumber_36 (by decide) ?_
              refine ki_idiv hx hb dX6_putNumber_38 (by omega) (by omega) (by omega) (by omega) ?_
              refine lv_istore_n (lv' := [(2, .int (iz (w / 10))), (0, .ref mo), (1, .int (iz p0))]) hx hb dX6_putNumber_39 rfl hl (by decide) rfl (fun ls hl => ?_)
              refine lv_goto (tgt := 18) hx hb dX6_putNumber_40 (by decide) ?_
              exact ih18 (w / 10) I_5 F_6 ⟨hB7, (hfJ.tr (hf7.mono (by decide) (by decide))), hd7, by omega⟩ (by omega) _ _ hP hD hS ls (lv_sub hl [0, 1, 2] rfl)
        exact lp18 _ u I F ⟨hB, mfr.rf, hdr, by omega⟩ (Nat.lt_succ_self _) _ _ hP hD hS ls (lv_sub hl [0, 1, 2] rfl)
      · skip
        have ht9 : 10 * u ≤ p0 := mz_ten (by omega) (by omega)
        refine lv_bipush (v := iz 10) hx hb dX6_putNumber_10 (by decide) ?_
        refine lv_iload_n hx hb dX6_putNumber_12 rfl (lv_at hl 0 rfl) ?_
        refine ki_imul hx hb dX6_putNumber_13 ?_
        refine lv_istore_n (lv' := [(2, .int (iz (10 * u))), (0, .ref mo), (1, .int (iz p0))]) hx hb dX6_putNumber_14 rfl hl (by decide) rfl (fun ls hl => ?_)
        refine lv_goto (tgt := 2) hx hb dX6_putNumber_15 (by decide) ?_
        exact ih2 (10 * u) (by omega) (by omega) _ _ hP hD hS ls (lv_sub hl [0, 1, 2] rfl)
  exact lp2 _ 1 (by omega) (Nat.lt_succ_self _) _ _ hP hD hS ls (lv_sub hl [0, 1, 2] rfl)
set_option maxHeartbeats 4000000 in
set_option maxRecDepth 100000 in
theorem k_putSmallRoman (l : Launch) (dC : Nat → ClassId) (dI : Nat → Nat → Nat) (mo : Nat) (ma : Nat → Nat) (cs : Nat → ClassId) (I : Nat → Int) (F : Nat → Int → Int) (p0 : Int) (sz : Nat) (hB : mB I F) (hdr : mDr I) (h0 : 0 ≤ p0 ∧ p0 < 2147483648) : mMv l yX6_putSmallRoman (.code yX6_putSmallRoman cX6_putSmallRoman 3 none) 2 43 dC dI mo ma cs I F [.ref mo, .int (iz p0)] sz (fun (I' : Nat → Int) (F' : Nat → Int → Int) => mB I' F' ∧ mfr [42, 43] [41] I F I' F' ∧ mDr I') := by
  refine Met.ofW (cc := cX6_putSmallRoman) (maxL := 3) (ret := none) (by decide) rfl ?_
  intro p e s m args below meth c s₁ B hml hv
  obtain ⟨rfl, hsz, hP, hK, hD0, hG, hZ⟩ := hv
  have hx := B.exec
  have hb := B.bytes
  have hr := B.returns
  have hts := kx_hts (a := ([.ref mo, .int (iz p0)] : List Value).toArray) hG
  have hown : s.vm.findClass RX6 = some m.cls := findClass_of_methodNamed B.named
  have hlocks := B.notSynchronized
  subst hsz
  have hD := hD0.self (sz := s.heap.size)
  generalize hAe : va_A (mW mo ma cs I F) s.heap.size = A at hD hZ ⊢
  have hA : ∀ q : Nat, s.heap.size ≤ q → A q := fun q h => by rw [← hAe]; exact Or.inr h
  have hS : va_S A s.heap s.heap [] := va_S.rf
  have hl := lv_entry ([.ref mo, .int (iz p0)]) (n := 3) (Nat.le_of_ble_eq_true rfl)
  rw [lg_entry_eq]
  generalize (lg_sl ([.ref mo, .int (iz p0)]) ++ List.replicate (3 - (lg_sl ([.ref mo, .int (iz p0)])).length) Slot.unset).toArray = ls at hl ⊢
  have hl : lv_has ls 3 [(0, .ref mo), (1, .int (iz p0))] := hl
  generalize hQe : MQ below (mQv dC dI mo ma cs A (fun (I' : Nat → Int) (F' : Nat → Int → Int) => mB I' F' ∧ mfr [42, 43] [41] I F I' F' ∧ mDr I')) ([.ref mo, .int (iz p0)] : List Value).toArray s 0 0 A = QQ
  refine lv_iload_n hx hb dX6_putSmallRoman_0 rfl (lv_at hl 1 rfl) ?_
  refine lv_istore_n (lv' := [(2, .int (iz p0)), (0, .ref mo), (1, .int (iz p0))]) hx hb dX6_putSmallRoman_1 rfl hl (by decide) rfl (fun ls hl => ?_)
  have lp2 : ∀ (n : Nat) (lf : Int) (J : Nat → Int) (G : Nat → Int → Int), ((mB J G) ∧ (mfr [42, 43] [41] I F J G) ∧ (mDr J) ∧ (0 ≤ lf ∧ lf < 2147483648)) → (lf).toNat < n → ∀ (H : Heap) (locs : List Loc), va_P (dC, dI) kxCl (mW mo ma cs J G) H → va_D A (mW mo ma cs J G) → va_S A s.heap H locs → ∀ ls : Array Slot, lv_has ls 3 [(2, .int (iz lf)), (0, .ref mo), (1, .int (iz p0))] → W p l e (headSpec [.code yX6_putSmallRoman cX6_putSmallRoman 3 none] ({ frames := 2, cells := 0, slots := 0, locals := 43 })).room s m ([.ref mo, .int (iz p0)] : List Value).toArray below meth c H locs 0 0 QQ (F0 m 2 ls []) := by
    intro n
    induction n with
    | zero => intro lf J G hinv hm; exact absurd hm (Nat.not_lt_zero _)
    | succ n ih2 =>
      intro lf J G hinv hm H locs hP hD hS ls hl
      obtain ⟨hBJ, hfJ, hdJ, hlf⟩ := hinv
      refine lv_iload_n hx hb dX6_putSmallRoman_2 rfl (lv_at hl 0 rfl) ?_
      refine ki_if_le (tgt := 270) hx hb dX6_putSmallRoman_3 (by decide) (by omega) (by omega) (fun c_1 => ?_) (fun c_1 => ?_)
      · skip
        rw [← hQe]
        exact mk_ret hx hb hr hlocks hP hD hK hS dX6_putSmallRoman_270 (⟨hBJ, hfJ, hdJ⟩)
      · skip
        refine lv_iload_n hx hb dX6_putSmallRoman_6 rfl (lv_at hl 0 rfl) ?_
        refine lv_sipush (v := iz 1000) hx hb dX6_putSmallRoman_7 (by decide) ?_
        refine ki_icmp_lt (tgt := 28) hx hb dX6_putSmallRoman_10 (by decide) (by omega) (by omega) (by omega) (by omega) (fun c_2 => ?_) (fun c_2 => ?_)
        · skip
          refine lv_iload_n hx hb dX6_putSmallRoman_28 rfl (lv_at hl 0 rfl) ?_
          refine lv_sipush (v := iz 900) hx hb dX6_putSmallRoman_29 (by decide) ?_
          refine ki_icmp_lt (tgt := 52) hx hb dX6_putSmallRoman_32 (by decide) (by omega) (by omega) (by omega) (by omega) (fun c_3 => ?_) (fun c_3 => ?_)
          · skip
            refine lv_iload_n hx hb dX6_putSmallRoman_52 rfl (lv_at hl 0 rfl) ?_
            refine lv_sipush (v := iz 500) hx hb dX6_putSmallRoman_53 (by decide) ?_
            refine ki_icmp_lt (tgt := 74) hx hb dX6_putSmallRoman_56 (by decide) (by omega) (by omega) (by omega) (by omega) (fun c_4 => ?_) (fun c_4 => ?_)
            · skip
              refine lv_iload_n hx hb dX6_putSmallRoman_74 rfl (lv_at hl 0 rfl) ?_
              refine lv_sipush (v := iz 400) hx hb dX6_putSmallRoman_75 (by decide) ?_
              refine ki_icmp_lt (tgt := 98) hx hb dX6_putSmallRoman_78 (by decide) (by omega) (by omega) (by omega) (by omega) (fun c_5 => ?_) (fun c_5 => ?_)
              · skip
                refine lv_iload_n hx hb dX6_putSmallRoman_98 rfl (lv_at hl 0 rfl) ?_
                refine lv_bipush (v := iz 100) hx hb dX6_putSmallRoman_99 (by decide) ?_
                refine ki_icmp_lt (tgt := 118) hx hb dX6_putSmallRoman_101 (by decide) (by omega) (by omega) (by omega) (by omega) (fun c_6 => ?_) (fun c_6 => ?_)
                · skip
                  refine lv_iload_n hx hb dX6_putSmallRoman_118 rfl (lv_at hl 0 rfl) ?_
                  refine lv_bipush (v := iz 90) hx hb dX6_putSmallRoman_119 (by decide) ?_
                  refine ki_icmp_lt (tgt := 140) hx hb dX6_putSmallRoman_121 (by decide) (by omega) (by omega) (by omega) (by omega) (fun c_7 => ?_) (fun c_7 => ?_)
                  · skip
                    refine lv_iload_n hx hb dX6_putSmallRoman_140 rfl (lv_at hl 0 rfl) ?_
                    refine lv_bipush (v := iz 50) hx hb dX6_putSmallRoman_141 (by decide) ?_
                    refine ki_icmp_lt (tgt := 160) hx hb dX6_putSmallRoman_143 (by decide) (by omega) (by omega) (by omega) (by omega) (fun c_8 => ?_) (fun c_8 => ?_)
                    · skip
                      refine lv_iload_n hx hb dX6_putSmallRoman_160 rfl (lv_at hl 0 rfl) ?_
                      refine lv_bipush (v := iz 40) hx hb dX6_putSmallRoman_161 (by decide) ?_
                      refine ki_icmp_lt (tgt := 182) hx hb dX6_putSmallRoman_163 (by decide) (by omega) (by omega) (by omega) (by omega) (fun c_9 => ?_) (fun c_9 => ?_)
                      · skip
                        refine lv_iload_n hx hb dX6_putSmallRoman_182 rfl (lv_at hl 0 rfl) ?_
                        refine lv_bipush (v := iz 10) hx hb dX6_putSmallRoman_183 (by decide) ?_
                        refine ki_icmp_lt (tgt := 202) hx hb dX6_putSmallRoman_185 (by decide) (by omega) (by omega) (by omega) (by omega) (fun c_10 => ?_) (fun c_10 => ?_)
                        · skip
                          refine lv_iload_n hx hb dX6_putSmallRoman_202 rfl (lv_at hl 0 rfl) ?_
                          refine lv_bipush (v := iz 9) hx hb dX6_putSmallRoman_203 (by decide) ?_
                          refine ki_icmp_ne (tgt := 221) hx hb dX6_putSmallRoman_205 (by decide) (by omega) (by omega) (by omega) (by omega) (fun c_11 => ?_) (fun c_11 => ?_)
                          · skip
                            refine lv_iload_n hx hb dX6_putSmallRoman_221 rfl (lv_at hl 0 rfl) ?_
                            refine lv_iconst (v := iz 5) hx hb dX6_putSmallRoman_222 (by decide) ?_
                            refine ki_icmp_lt (tgt := 239) hx hb dX6_putSmallRoman_223 (by decide) (by omega) (by omega) (by omega) (by omega) (fun c_12 => ?_) (fun c_12 => ?_)
                            · skip
                              refine lv_iload_n hx hb dX6_putSmallRoman_239 rfl (lv_at hl 0 rfl) ?_
                              refine lv_iconst (v := iz 4) hx hb dX6_putSmallRoman_240 (by decide) ?_
                              refine ki_icmp_ne (tgt := 257) hx hb dX6_putSmallRoman_241 (by decide) (by omega) (by omega) (by omega) (by omega) (fun c_13 => ?_) (fun c_13 => ?_)
                              · skip
                                refine lv_aload_n hx hb dX6_putSmallRoman_257 rfl (lv_at hl 1 rfl) ?_
                                refine lv_bipush (v := iz 105) hx hb dX6_putSmallRoman_258 (by decide) ?_
                                refine mk_callv (As := [.int (iz 105)]) (rest := []) ⟨hx, hb, hml, hown, hts⟩ (k_put l dC dI mo ma cs J G 105 H.size hBJ hdJ) (cwV 1 hts (kx_gV kq_09_mput_12 kq_09_mput_13 kq_09_mput_14 kq_04_msmall_6 kq_09_mput_15 rfl) rfl rfl rfl (by decide +kernel) ⟨Nat.le_of_ble_eq_true rfl, Nat.le_of_ble_eq_true rfl⟩) hP hD hK hG hZ hS hA rfl hl.1 rfl (Nat.le_of_ble_eq_true rfl) dX6_putSmallRoman_260 ⟨Nat.le_of_ble_eq_true rfl, Nat.le_of_ble_eq_true rfl⟩ (fun I_16 F_17 H locs hq_15 hP hD hS => ?_)
                                try dsimp only at hq_15
                                obtain ⟨hB18, hf18, hd18⟩ := hq_15
                                refine lv_iload_n hx hb dX6_putSmallRoman_263 rfl (lv_at hl 0 rfl) ?_
                                refine lv_iconst (v := iz 1) hx hb dX6_putSmallRoman_264 (by decide) ?_
                                refine ki_isub hx hb dX6_putSmallRoman_265 ?_
                                refine lv_istore_n (lv' := [(2, .int (iz (lf - 1))), (0, .ref mo), (1, .int (iz p0))]) hx hb dX6_putSmallRoman_266 rfl hl (by decide) rfl (fun ls hl => ?_)
                                refine lv_goto (tgt := 2) hx hb dX6_putSmallRoman_267 (by decide) ?_
                                exact ih2 (lf - 1) I_16 F_17 ⟨hB18, (hfJ.tr (hf18.mono (by decide) (by decide))), hd18, by omega⟩ (by omega) _ _ hP hD hS ls (lv_sub hl [0, 1, 2] rfl)
                              · skip
                                refine lv_aload_n hx hb dX6_putSmallRoman_244 rfl (lv_at hl 1 rfl) ?_
                                refine lv_bipush (v := iz 105) hx hb dX6_putSmallRoman_245 (by decide) ?_
                                refine lv_bipush (v := iz 118) hx hb dX6_putSmallRoman_247 (by decide) ?_
                                refine mk_callv (As := [.int (iz 105), .int (iz 118)]) (rest := []) ⟨hx, hb, hml, hown, hts⟩ (k_putPair l dC dI mo ma cs J G 105 118 H.size hBJ hdJ) (cwV 2 hts (kx_gV kq_09_mput_16 kq_09_mput_17 kq_09_mput_18 kq_04_msmall_6 kq_09_mput_19 rfl) rfl rfl rfl (by decide +kernel) ⟨Nat.le_of_ble_eq_true rfl, Nat.le_of_ble_eq_true rfl⟩) hP hD hK hG hZ hS hA rfl hl.1 rfl (Nat.le_of_ble_eq_true rfl) dX6_putSmallRoman_249 ⟨Nat.le_of_ble_eq_true rfl, Nat.le_of_ble_eq_true rfl⟩ (fun I_21 F_22 H locs hq_20 hP hD hS => ?_)
                                try dsimp only at hq_20
                                obtain ⟨hB23, hf23, hd23⟩ := hq_20
                                refine lv_iconst (v := iz 0) hx hb dX6_putSmallRoman_252 (by decide) ?_
                                refine lv_istore_n (lv' := [(2, .int (iz 0)), (0, .ref mo), (1, .int (iz p0))]) hx hb dX6_putSmallRoman_253 rfl hl (by decide) rfl (fun ls hl => ?_)
                                refine lv_goto (tgt := 2) hx hb dX6_putSmallRoman_254 (by decide) ?_
                                exact ih2 0 I_21 F_22 ⟨hB23, (hfJ.tr (hf23.mono (by decide) (by decide))), hd23, by omega⟩ (by omega) _ _ hP hD hS ls (lv_sub hl [0, 1, 2] rfl)
                            · skip
                              refine lv_aload_n hx hb dX6_putSmallRoman_226 rfl (lv_at hl 1 rfl) ?_
                              refine lv_bipush (v := iz 118) hx hb dX6_putSmallRoman_227 (by decide) ?_
                              refine mk_callv (As := [.int (iz 118)]) (rest := []) ⟨hx, hb, hml, hown, hts⟩ (k_put l dC dI mo ma cs J G 118 H.size hBJ hdJ) (cwV 1 hts (kx_gV kq_09_mput_12 kq_09_mput_13 kq_09_mput_14 kq_04_msmall_6 kq_09_mput_15 rfl) rfl rfl rfl (by decide +kernel) ⟨Nat.le_of_ble_eq_true rfl, Nat.le_of_ble_eq_true rfl⟩) hP hD hK hG hZ hS hA rfl hl.1 rfl (Nat.le_of_ble_eq_true rfl) dX6_putSmallRoman_229 ⟨Nat.le_of_ble_eq_true rfl, Nat.le_of_ble_eq_true rfl⟩ (fun I_26 F_27 H locs hq_25 hP hD hS => ?_)
                              try dsimp only at hq_25
                              obtain ⟨hB28, hf28, hd28⟩ := hq_25
                              refine lv_iload_n hx hb dX6_putSmallRoman_232 rfl (lv_at hl 0 rfl) ?_
                              refine lv_iconst (v := iz 5) hx hb dX6_putSmallRoman_233 (by decide) ?_
                              refine ki_isub hx hb dX6_putSmallRoman_234 ?_
                              refine lv_istore_n (lv' := [(2, .int (iz (lf - 5))), (0, .ref mo), (1, .int (iz p0))]) hx hb dX6_putSmallRoman_235 rfl hl (by decide) rfl (fun ls hl => ?_)
                              refine lv_goto (tgt := 2) hx hb dX6_putSmallRoman_236 (by decide) ?_
                              exact ih2 (lf - 5) I_26 F_27 ⟨hB28, (hfJ.tr (hf28.mono (by decide) (by decide))), hd28, by omega⟩ (by omega) _ _ hP hD hS ls (lv_sub hl [0, 1, 2] rfl)
                          · skip
                            refine lv_aload_n hx hb dX6_putSmallRoman_208 rfl (lv_at hl 1 rfl) ?_
                            refine lv_bipush (v := iz 105) hx hb dX6_putSmallRoman_209 (by decide) ?_
                            refine lv_bipush (v := iz 120) hx hb dX6_putSmallRoman_211 (by decide) ?_
                            refine mk_callv (As := [.int (iz 105), .int (iz 120)]) (rest := []) ⟨hx, hb, hml, hown, hts⟩ (k_putPair l dC dI mo ma cs J G 105 120 H.size hBJ hdJ) (cwV 2 hts (kx_gV kq_09_mput_16 kq_09_mput_17 kq_09_mput_18 kq_04_msmall_6 kq_09_mput_19 rfl) rfl rfl rfl (by decide +kernel) ⟨Nat.le_of_ble_eq_true rfl, Nat.le_of_ble_eq_true rfl⟩) hP hD hK hG hZ hS hA rfl hl.1 rfl (Nat.le_of_ble_eq_true rfl) dX6_putSmallRoman_213 ⟨Nat.le_of_ble_eq_true rfl, Nat.le_of_ble_eq_true rfl⟩ (fun I_31 F_32 H locs hq_30 hP hD hS => ?_)
                            try dsimp only at hq_30
                            obtain ⟨hB33, hf33, hd33⟩ := hq_30
                            refine lv_iconst (v := iz 0) hx hb dX6_putSmallRoman_216 (by decide) ?_
                            refine lv_istore_n (lv' := [(2, .int (iz 0)), (0, .ref mo), (1, .int (iz p0))]) hx hb dX6_putSmallRoman_217 rfl hl (by decide) rfl (fun ls hl => ?_)
                            refine lv_goto (tgt := 2) hx hb dX6_putSmallRoman_218 (by decide) ?_
                            exact ih2 0 I_31 F_32 ⟨hB33, (hfJ.tr (hf33.mono (by decide) (by decide))), hd33, by omega⟩ (by omega) _ _ hP hD hS ls (lv_sub hl [0, 1, 2] rfl)
                        · skip
                          refine lv_aload_n hx hb dX6_putSmallRoman_188 rfl (lv_at hl 1 rfl) ?_
                          refine lv_bipush (v := iz 120) hx hb dX6_putSmallRoman_189 (by decide) ?_
                          refine mk_callv (As := [.int (iz 120)]) (rest := []) ⟨hx, hb, hml, hown, hts⟩ (k_put l dC dI mo ma cs J G 120 H.size hBJ hdJ) (cwV 1 hts (kx_gV kq_09_mput_12 kq_09_mput_13 kq_09_mput_14 kq_04_msmall_6 kq_09_mput_15 rfl) rfl rfl rfl (by decide +kernel) ⟨Nat.le_of_ble_eq_true rfl, Nat.le_of_ble_eq_true rfl⟩) hP hD hK hG hZ hS hA rfl hl.1 rfl (Nat.le_of_ble_eq_true rfl) dX6_putSmallRoman_191 ⟨Nat.le_of_ble_eq_true rfl, Nat.le_of_ble_eq_true rfl⟩ (fun I_36 F_37 H locs hq_35 hP hD hS => ?_)
                          try dsimp only at hq_35
                          obtain ⟨hB38, hf38, hd38⟩ := hq_35
                          refine lv_iload_n hx hb dX6_putSmallRoman_194 rfl (lv_at hl 0 rfl) ?_
                          refine lv_bipush (v := iz 10) hx hb dX6_putSmallRoman_195 (by decide) ?_
                          refine ki_isub hx hb dX6_putSmallRoman_197 ?_
                          refine lv_istore_n (lv' := [(2, .int (iz (lf - 10))), (0, .ref mo), (1, .int (iz p0))]) hx hb dX6_putSmallRoman_198 rfl hl (by decide) rfl (fun ls hl => ?_)
                          refine lv_goto (tgt := 2) hx hb dX6_putSmallRoman_199 (by decide) ?_
                          exact ih2 (lf - 10) I_36 F_37 ⟨hB38, (hfJ.tr (hf38.mono (by decide) (by decide))), hd38, by omega⟩ (by omega) _ _ hP hD hS ls (lv_sub hl [0, 1, 2] rfl)
                      · skip
                        refine lv_aload_n hx hb dX6_putSmallRoman_166 rfl (lv_at hl 1 rfl) ?_
                        refine lv_bipush (v := iz 120) hx hb dX6_putSmallRoman_167 (by decide) ?_
                        refine lv_bipush (v := iz 108) hx hb dX6_putSmallRoman_169 (by decide) ?_
                        refine mk_callv (As := [.int (iz 120), .int (iz 108)]) (rest := []) ⟨hx, hb, hml, hown, hts⟩ (k_putPair l dC dI mo ma cs J G 120 108 H.size hBJ hdJ) (cwV 2 hts (kx_gV kq_09_mput_16 kq_09_mput_17 kq_09_mput_18 kq_04_msmall_6 kq_09_mput_19 rfl) rfl rfl rfl (by decide +kernel) ⟨Nat.le_of_ble_eq_true rfl, Nat.le_of_ble_eq_true rfl⟩) hP hD hK hG hZ hS hA rfl hl.1 rfl (Nat.le_of_ble_eq_true rfl) dX6_putSmallRoman_171 ⟨Nat.le_of_ble_eq_true rfl, Nat.le_of_ble_eq_true rfl⟩ (fun I_41 F_42 H locs hq_40 hP hD hS => ?_)
                        try dsimp only at hq_40
                        obtain ⟨hB43, hf43, hd43⟩ := hq_40
                        refine lv_iload_n hx hb dX6_putSmallRoman_174 rfl (lv_at hl 0 rfl) ?_
                        refine lv_bipush (v := iz 40) hx hb dX6_putSmallRoman_175 (by decide) ?_
                        refine ki_isub hx hb dX6_putSmallRoman_177 ?_
                        refine lv_istore_n (lv' := [(2, .int (iz (lf - 40))), (0, .ref mo), (1, .int (iz p0))]) hx hb dX6_putSmallRoman_178 rfl hl (by decide) rfl (fun ls hl => ?_)
                        refine lv_goto (tgt := 2) hx hb dX6_putSmallRoman_179 (by decide) ?_
                        exact ih2 (lf - 40) I_41 F_42 ⟨hB43, (hfJ.tr (hf43.mono (by decide) (by decide))), hd43, by omega⟩ (by omega) _ _ hP hD hS ls (lv_sub hl [0, 1, 2] rfl)
                    · skip
                      refine lv_aload_n hx hb dX6_putSmallRoman_146 rfl (lv_at hl 1 rfl) ?_
                      refine lv_bipush (v := iz 108) hx hb dX6_putSmallRoman_147 (by decide) ?_
                      refine mk_callv (As := [.int (iz 108)]) (rest := []) ⟨hx, hb, hml, hown, hts⟩ (k_put l dC dI mo ma cs J G 108 H.size hBJ hdJ) (cwV 1 hts (kx_gV kq_09_mput_12 kq_09_mput_13 kq_09_mput_14 kq_04_msmall_6 kq_09_mput_15 rfl) rfl rfl rfl (by decide +kernel) ⟨Nat.le_of_ble_eq_true rfl, Nat.le_of_ble_eq_true rfl⟩) hP hD hK hG hZ hS hA rfl hl.1 rfl (Nat.le_of_ble_eq_true rfl) dX6_putSmallRoman_149 ⟨Nat.le_of_ble_eq_true rfl, Nat.le_of_ble_eq_true rfl⟩ (fun I_46 F_47 H locs hq_45 hP hD hS => ?_)
                      try dsimp only at hq_45
                      obtain ⟨hB48, hf48, hd48⟩ := hq_45
                      refine lv_iload_n hx hb dX6_putSmallRoman_152 rfl (lv_at hl 0 rfl) ?_
                      refine lv_bipush (v := iz 50) hx hb dX6_putSmallRoman_153 (by decide) ?_
                      refine ki_isub hx hb dX6_putSmallRoman_155 ?_
                      refine lv_istore_n (lv' := [(2, .int (iz (lf - 50))), (0, .ref mo), (1, .int (iz p0))]) hx hb dX6_putSmallRoman_156 rfl hl (by decide) rfl (fun ls hl => ?_)
                      refine lv_goto (tgt := 2) hx hb dX6_putSmallRoman_157 (by decide) ?_
                      exact ih2 (lf - 50) I_46 F_47 ⟨hB48, (hfJ.tr (hf48.mono (by decide) (by decide))), hd48, by omega⟩ (by omega) _ _ hP hD hS ls (lv_sub hl [0, 1, 2] rfl)
                  · skip
                    refine lv_aload_n hx hb dX6_putSmallRoman_124 rfl (lv_at hl 1 rfl) ?_
                    refine lv_bipush (v := iz 120) hx hb dX6_putSmallRoman_125 (by decide) ?_
                    refine lv_bipush (v := iz 99) hx hb dX6_putSmallRoman_127 (by decide) ?_
                    refine mk_callv (As := [.int (iz 120), .int (iz 99)]) (rest := []) ⟨hx, hb, hml, hown, hts⟩ (k_putPair l dC dI mo ma cs J G 120 99 H.size hBJ hdJ) (cwV 2 hts (kx_gV kq_09_mput_16 kq_09_mput_17 kq_09_mput_18 kq_04_msmall_6 kq_09_mput_19 rfl) rfl rfl rfl (by decide +kernel) ⟨Nat.le_of_ble_eq_true rfl, Nat.le_of_ble_eq_true rfl⟩) hP hD hK hG hZ hS hA rfl hl.1 rfl (Nat.le_of_ble_eq_true rfl) dX6_putSmallRoman_129 ⟨Nat.le_of_ble_eq_true rfl, Nat.le_of_ble_eq_true rfl⟩ (fun I_51 F_52 H locs hq_50 hP hD hS => ?_)
                    try dsimp only at hq_50
                    obtain ⟨hB53, hf53, hd53⟩ := hq_50
                    refine lv_iload_n hx hb dX6_putSmallRoman_132 rfl (lv_at hl 0 rfl) ?_
                    refine lv_bipush (v := iz 90) hx hb dX6_putSmallRoman_133 (by decide) ?_
                    refine ki_isub hx hb dX6_putSmallRoman_135 ?_
                    refine lv_istore_n (lv' := [(2, .int (iz (lf - 90))), (0, .ref mo), (1, .int (iz p0))]) hx hb dX6_putSmallRoman_136 rfl hl (by decide) rfl (fun ls hl => ?_)
                    refine lv_goto (tgt := 2) hx hb dX6_putSmallRoman_137 (by decide) ?_
                    exact ih2 (lf - 90) I_51 F_52 ⟨hB53, (hfJ.tr (hf53.mono (by decide) (by decide))), hd53, by omega⟩ (by omega) _ _ hP hD hS ls (lv_sub hl [0, 1, 2] rfl)
                · skip
                  refine lv_aload_n hx hb dX6_putSmallRoman_104 rfl (lv_at hl 1 rfl) ?_
                  refine lv_bipush (v := iz 99) hx hb dX6_putSmallRoman_105 (by decide) ?_
                  refine mk_callv (As := [.int (iz 99)]) (rest := []) ⟨hx, hb, hml, hown, hts⟩ (k_put l dC dI mo ma cs J G 99 H.size hBJ hdJ) (cwV 1 hts (kx_gV kq_09_mput_12 kq_09_mput_13 kq_09_mput_14 kq_04_msmall_6 kq_09_mput_15 rfl) rfl rfl rfl (by decide +kernel) ⟨Nat.le_of_ble_eq_true rfl, Nat.le_of_ble_eq_true rfl⟩) hP hD hK hG hZ hS hA rfl hl.1 rfl (Nat.le_of_ble_eq_true rfl) dX6_putSmallRoman_107 ⟨Nat.le_of_ble_eq_true rfl, Nat.le_of_ble_eq_true rfl⟩ (fun I_56 F_57 H locs hq_55 hP hD hS => ?_)
                  try dsimp only at hq_55
                  obtain ⟨hB58, hf58, hd58⟩ := hq_55
                  refine lv_iload_n hx hb dX6_putSmallRoman_110 rfl (lv_at hl 0 rfl) ?_
                  refine lv_bipush (v := iz 100) hx hb dX6_putSmallRoman_111 (by decide) ?_
                  refine ki_isub hx hb dX6_putSmallRoman_113 ?_
                  refine lv_istore_n (lv' := [(2, .int (iz (lf - 100))), (0, .ref mo), (1, .int (iz p0))]) hx hb dX6_putSmallRoman_114 rfl hl (by decide) rfl (fun ls hl => ?_)
                  refine lv_goto (tgt := 2) hx hb dX6_putSmallRoman_115 (by decide) ?_
                  exact ih2 (lf - 100) I_56 F_57 ⟨hB58, (hfJ.tr (hf58.mono (by decide) (by decide))), hd58, by omega⟩ (by omega) _ _ hP hD hS ls (lv_sub hl [0, 1, 2] rfl)
              · skip
                refine lv_aload_n hx hb dX6_putSmallRoman_81 rfl (lv_at hl 1 rfl) ?_
                refine lv_bipush (v := iz 99) hx hb dX6_putSmallRoman_82 (by decide) ?_
                refine lv_bipush (v := iz 100) hx hb dX6_putSmallRoman_84 (by decide) ?_
                refine mk_callv (As := [.int (iz 99), .int (iz 100)]) (rest := []) ⟨hx, hb, hml, hown, hts⟩ (k_putPair l dC dI mo ma cs J G 99 100 H.size hBJ hdJ) (cwV 2 hts (kx_gV kq_09_mput_16 kq_09_mput_17 kq_09_mput_18 kq_04_msmall_6 kq_09_mput_19 rfl) rfl rfl rfl (by decide +kernel) ⟨Nat.le_of_ble_eq_true rfl, Nat.le_of_ble_eq_true rfl⟩) hP hD hK hG hZ hS hA rfl hl.1 rfl (Nat.le_of_ble_eq_true rfl) dX6_putSmallRoman_86 ⟨Nat.le_of_ble_eq_true rfl, Nat.le_of_ble_eq_true rfl⟩ (fun I_61 F_62 H locs hq_60 hP hD hS => ?_)
                try dsimp only at hq_60
                obtain ⟨hB63, hf63, hd63⟩ := hq_60
                refine lv_iload_n hx hb dX6_putSmallRoman_89 rfl (lv_at hl 0 rfl) ?_
                refine lv_sipush (v := iz 400) hx hb dX6_putSmallRoman_90 (by decide) ?_
                refine ki_isub hx hb dX6_putSmallRoman_93 ?_
                refine lv_istore_n (lv' := [(2, .int (iz (lf - 400))), (0, .ref mo), (1, .int (iz p0))]) hx hb dX6_putSmallRoman_94 rfl hl (by decide) rfl (fun ls hl => ?_)
                refine lv_goto (tgt := 2) hx hb dX6_putSmallRoman_95 (by decide) ?_
                exact ih2 (lf - 400) I_61 F_62 ⟨hB63, (hfJ.tr (hf63.mono (by decide) (by decide))), hd63, by omega⟩ (by omega) _ _ hP hD hS ls (lv_sub hl [0, 1, 2] rfl)
            · skip
              refine lv_aload_n hx hb dX6_putSmallRoman_59 rfl (lv_at hl 1 rfl) ?_
              refine lv_bipush (v := iz 100) hx hb dX6_putSmallRoman_60 (by decide) ?_
              refine mk_callv (As := [.int (iz 100)]) (rest := []) ⟨hx, hb, hml, hown, hts⟩ (k_put l dC dI mo ma cs J G 100 H.size hBJ hdJ) (cwV 1 hts (kx_gV kq_09_mput_12 kq_09_mput_13 kq_09_mput_14 kq_04_msmall_6 kq_09_mput_15 rfl) rfl rfl rfl (by decide +kernel) ⟨Nat.le_of_ble_eq_true rfl, Nat.le_of_ble_eq_true rfl⟩) hP hD hK hG hZ hS hA rfl hl.1 rfl (Nat.le_of_ble_eq_true rfl) dX6_putSmallRoman_62 ⟨Nat.le_of_ble_eq_true rfl, Nat.le_of_ble_eq_true rfl⟩ (fun I_66 F_67 H locs hq_65 hP hD hS => ?_)
              try dsimp only at hq_65
              obtain ⟨hB68, hf68, hd68⟩ := hq_65
              refine lv_iload_n hx hb dX6_putSmallRoman_65 rfl (lv_at hl 0 rfl) ?_
              refine lv_sipush (v := iz 500) hx hb dX6_putSmallRoman_66 (by decide) ?_
              refine ki_isub hx hb dX6_putSmallRoman_69 ?_
              refine lv_istore_n (lv' := [(2, .int (iz (lf - 500))), (0, .ref mo), (1, .int (iz p0))]) hx hb dX6_putSmallRoman_70 rfl hl (by decide) rfl (fun ls hl => ?_)
              refine lv_goto (tgt := 2) hx hb dX6_putSmallRoman_71 (by decide) ?_
              exact ih2 (lf - 500) I_66 F_67 ⟨hB68, (hfJ.tr (hf68.mono (by decide) (by decide))), hd68, by omega⟩ (by omega) _ _ hP hD hS ls (lv_sub hl [0, 1, 2] rfl)
          · skip
            refine lv_aload_n hx hb dX6_putSmallRoman_35 rfl (lv_at hl 1 rfl) ?_
            refine lv_bipush (v := iz 99) hx hb dX6_putSmallRoman_36 (by decide) ?_
            refine lv_bipush (v := iz 109) hx hb dX6_putSmallRoman_38 (by decide) ?_
            refine mk_callv (As := [.int (iz 99), .int (iz 109)]) (rest := []) ⟨hx, hb, hml, hown, hts⟩ (k_putPair l dC dI mo ma cs J G 99 109 H.size hBJ hdJ) (cwV 2 hts (kx_gV kq_09_mput_16 kq_09_mput_17 kq_09_mput_18 kq_04_msmall_6 kq_09_mput_19 rfl) rfl rfl rfl (by decide +kernel) ⟨Nat.le_of_ble_eq_true rfl, Nat.le_of_ble_eq_true rfl⟩) hP hD hK hG hZ hS hA rfl hl.1 rfl (Nat.le_of_ble_eq_true rfl) dX6_putSmallRoman_40 ⟨Nat.le_of_ble_eq_true rfl, Nat.le_of_ble_eq_true rfl⟩ (fun I_71 F_72 H locs hq_70 hP hD hS => ?_)
            try dsimp only at hq_70
            obtain ⟨hB73, hf73, hd73⟩ := hq_70
            refine lv_iload_n hx hb dX6_putSmallRoman_43 rfl (lv_at hl 0 rfl) ?_
            refine lv_sipush (v := iz 900) hx hb dX6_putSmallRoman_44 (by decide) ?_
            refine ki_isub hx hb dX6_putSmallRoman_47 ?_
            refine lv_istore_n (lv' := [(2, .int (iz (lf - 900))), (0, .ref mo), (1, .int (iz p0))]) hx hb dX6_putSmallRoman_48 rfl hl (by decide) rfl (fun ls hl => ?_)
            refine lv_goto (tgt := 2) hx hb dX6_putSmallRoman_49 (by decide) ?_
            exact ih2 (lf - 900) I_71 F_72 ⟨hB73, (hfJ.tr (hf73.mono (by decide) (by decide))), hd73, by omega⟩ (by omega) _ _ hP hD hS ls (lv_sub hl [0, 1, 2] rfl)
        · skip
          refine lv_aload_n hx hb dX6_putSmallRoman_13 rfl (lv_at hl 1 rfl) ?_
          refine lv_bipush (v := iz 109) hx hb dX6_putSmallRoman_14 (by decide) ?_
          refine mk_callv (As := [.int (iz 109)]) (rest := []) ⟨hx, hb, hml, hown, hts⟩ (k_put l dC dI mo ma cs J G 109 H.size hBJ hdJ) (cwV 1 hts (kx_gV kq_09_mput_12 kq_09_mput_13 kq_09_mput_14 kq_04_msmall_6 kq_09_mput_15 rfl) rfl rfl rfl (by decide +kernel) ⟨Nat.le_of_ble_eq_true rfl, Nat.le_of_ble_eq_true rfl⟩) hP hD hK hG hZ hS hA rfl hl.1 rfl (Nat.le_of_ble_eq_true rfl) dX6_putSmallRoman_16 ⟨Nat.le_of_ble_eq_true rfl, Nat.le_of_ble_eq_true rfl⟩ (fun I_76 F_77 H locs hq_75 hP hD hS => ?_)
          try dsimp only at hq_75
          obtain ⟨hB78, hf78, hd78⟩ := hq_75
          refine lv_iload_n hx hb dX6_putSmallRoman_19 rfl (lv_at hl 0 rfl) ?_
          refine lv_sipush (v := iz 1000) hx hb dX6_putSmallRoman_20 (by decide) ?_
          refine ki_isub hx hb dX6_putSmallRoman_23 ?_
          refine lv_istore_n (lv' := [(2, .int (iz (lf - 1000))), (0, .ref mo), (1, .int (iz p0))]) hx hb dX6_putSmallRoman_24 rfl hl (by decide) rfl (fun ls hl => ?_)
          refine lv_goto (tgt := 2) hx hb dX6_putSmallRoman_25 (by decide) ?_
          exact ih2 (lf - 1000) I_76 F_77 ⟨hB78, (hfJ.tr (hf78.mono (by decide) (by decide))), hd78, by omega⟩ (by omega) _ _ hP hD hS ls (lv_sub hl [0, 1, 2] rfl)
  exact lp2 _ p0 I F ⟨hB, mfr.rf, hdr, by omega⟩ (Nat.lt_succ_self _) _ _ hP hD hS ls (lv_sub hl [0, 1, 2] rfl)
set_option maxHeartbeats 4000000 in
set_option maxRecDepth 100000 in
theorem k_putOne (l : Launch) (dC : Nat → ClassId) (dI : Nat → Nat → Nat) (mo : Nat) (ma : Nat → Nat) (cs : Nat → ClassId) (I : Nat → Int) (F : Nat → Int → Int) (kd : Int) (p1 : Int) (sz : Nat) (hB : mB I F) (hdr : mDr I) (h0 : 0 ≤ p1 ∧ p1 ≤ 200000) (hkd1 : -2147483648 ≤ kd) (hkd2 : kd < 2147483648) : mMv l yX6_putOne (.code yX6_putOne cX6_putOne 3 none) 3 65 dC dI mo ma cs I F [.ref mo, .int (iz kd), .int (iz p1)] sz (fun (I' : Nat → Int) (F' : Nat → Int → Int) => mB I' F' ∧ mfr [42, 43] [41] I F I' F' ∧ mDr I') := by
  refine Met.ofW (cc := cX6_putOne) (maxL := 3) (ret := none) (by decide) rfl ?_
  intro p e s m args below meth c s₁ B hml hv
  obtain ⟨rfl, hsz, hP, hK, hD0, hG, hZ⟩ := hv
  have hx := B.exec
  have hb := B.bytes
  have hr := B.returns
  have hts := kx_hts (a := ([.ref mo, .int (iz kd), .int (iz p1)] : List Value).toArray) hG
  have hown : s.vm.findClass RX6 = some m.cls := findClass_of_methodNamed B.named
  have hlocks := B.notSynchronized
  subst hsz
  have hD := hD0.self (sz := s.heap.size)
  generalize hAe : va_A (mW mo ma cs I F) s.heap.size = A at hD hZ ⊢
  have hA : ∀ q : Nat, s.heap.size ≤ q → A q := fun q h => by rw [← hAe]; exact Or.inr h
  have hS : va_S A s.heap s.heap [] := va_S.rf
  have hl := lv_entry ([.ref mo, .int (iz kd), .int (iz p1)]) (n := 3) (Nat.le_of_ble_eq_true rfl)
  rw [lg_entry_eq]
  generalize (lg_sl ([.ref mo, .int (iz kd), .int (iz p1)]) ++ List.replicate (3 - (lg_sl ([.ref mo, .int (iz kd), .int (iz p1)])).length) Slot.unset).toArray = ls at hl ⊢
  have hl : lv_has ls 3 [(0, .ref mo), (1, .int (iz kd)), (2, .int (iz p1))] := hl
  refine lv_iload_n hx hb dX6_putOne_0 rfl (lv_at hl 1 rfl) ?_
  refine ki_if_ne (tgt := 12) hx hb dX6_putOne_1 (by decide) (by omega) (by omega) (fun c_1 => ?_) (fun c_1 => ?_)
  · skip
    refine lv_iload_n hx hb dX6_putOne_12 rfl (lv_at hl 1 rfl) ?_
    refine lv_iconst (v := iz 1) hx hb dX6_putOne_13 (by decide) ?_
    refine ki_icmp_ne (tgt := 25) hx hb dX6_putOne_14 (by decide) (by omega) (by omega) (by omega) (by omega) (fun c_2 => ?_) (fun c_2 => ?_)
    · skip
      refine lv_iload_n hx hb dX6_putOne_25 rfl (lv_at hl 2 rfl) ?_
      refine lv_bipush (v := iz 26) hx hb dX6_putOne_26 (by decide) ?_
      refine ki_icmp_gt (tgt := 42) hx hb dX6_putOne_28 (by decide) (by omega) (by omega) (by omega) (by omega) (fun c_3 => ?_) (fun c_3 => ?_)
      · skip
        refine lv_aload_n hx hb dX6_putOne_42 rfl (lv_at hl 0 rfl) ?_
        refine lv_bipush (v := iz 97) hx hb dX6_putOne_43 (by decide) ?_
        refine lv_iload_n hx hb dX6_putOne_45 rfl (lv_at hl 2 rfl) ?_
        refine lv_bipush (v := iz 27) hx hb dX6_putOne_46 (by decide) ?_
        refine ki_isub hx hb dX6_putOne_48 ?_
        refine lv_bipush (v := iz 26) hx hb dX6_putOne_49 (by decide) ?_
        refine ki_idiv hx hb dX6_putOne_51 (by omega) (by omega) (by omega) (by omega) ?_
        refine ki_iadd hx hb dX6_putOne_52 ?_
        refine lv_bipush (v := iz 97) hx hb dX6_putOne_53 (by decide) ?_
        refine lv_iload_n hx hb dX6_putOne_55 rfl (lv_at hl 2 rfl) ?_
        refine lv_bipush (v := iz 27) hx hb dX6_putOne_56 (by decide) ?_
        refine ki_isub hx hb dX6_putOne_58 ?_
        refine lv_bipush (v := iz 26) hx hb dX6_putOne_59 (by decide) ?_
        refine ki_irem hx hb dX6_putOne_61 (by omega) (by omega) (by omega) (by omega) ?_
        refine ki_iadd hx hb dX6_putOne_62 ?_
        refine mk_callv (As := [.int (iz (97 + ((p1 - 27) / 26))), .int (iz (97 + ((p1 - 27) % 26)))]) (rest := []) ⟨hx, hb, hml, hown, hts⟩ (k_putPair l dC dI mo ma cs I F (97 + ((p1 - 27) / 26)) (97 + ((p1 - 27) % 26)) s.heap.size hB hdr) (cwV 2 hts (kx_gV kq_09_mput_16 kq_09_mput_17 kq_09_mput_18 kq_04_msmall_6 kq_09_mput_19 rfl) rfl rfl rfl (by decide +kernel) ⟨Nat.le_of_ble_eq_true rfl, Nat.le_of_ble_eq_true rfl⟩) hP hD hK hG hZ hS hA rfl hl.1 rfl (Nat.le_of_ble_eq_true rfl) dX6_putOne_63 ⟨Nat.le_of_ble_eq_true rfl, Nat.le_of_ble_eq_true rfl⟩ (fun I_6 F_7 H locs hq_5 hP hD hS => ?_)
        try dsimp only at hq_5
        obtain ⟨hB8, hf8, hd8⟩ := hq_5
        exact mk_ret hx hb hr hlocks hP hD hK hS dX6_putOne_66 (⟨hB8, (mfr.rf.tr (hf8.mono (by decide) (by decide))), hd8⟩)
      · skip
        refine lv_aload_n hx hb dX6_putOne_31 rfl (lv_at hl 0 rfl) ?_
        refine lv_bipush (v := iz 96) hx hb dX6_putOne_32 (by decide) ?_
        refine lv_iload_n hx hb dX6_putOne_34 rfl (lv_at hl 2 rfl) ?_
        refine ki_iadd hx hb dX6_putOne_35 ?_
        refine mk_callv (As := [.int (iz (96 + p1))]) (rest := []) ⟨hx, hb, hml, hown, hts⟩ (k_put l dC dI mo ma cs I F (96 + p1) s.heap.size hB hdr) (cwV 1 hts (kx_gV kq_09_mput_12 kq_09_mput_13 kq_09_mput_14 kq_04_msmall_6 kq_09_mput_15 rfl) rfl rfl rfl (by decide +kernel) ⟨Nat.le_of_ble_eq_true rfl, Nat.le_of_ble_eq_true rfl⟩) hP hD hK hG hZ hS hA rfl hl.1 rfl (Nat.le_of_ble_eq_true rfl) dX6_putOne_36 ⟨Nat.le_of_ble_eq_true rfl, Nat.le_of_ble_eq_true rfl⟩ (fun I_11 F_12 H locs hq_10 hP hD hS => ?_)
        try dsimp only at hq_10
        obtain ⟨hB13, hf13, hd13⟩ := hq_10
        refine lv_goto (tgt := 66) hx hb dX6_putOne_39 (by decide) ?_
        exact mk_ret hx hb hr hlocks hP hD hK hS dX6_putOne_66 (⟨hB13, (mfr.rf.tr (hf13.mono (by decide) (by decide))), hd13⟩)
    · skip
      refine lv_aload_n hx hb dX6_putOne_17 rfl (lv_at hl 0 rfl) ?_
      refine lv_iload_n hx hb dX6_putOne_18 rfl (lv_at hl 2 rfl) ?_
      refine mk_callv (As := [.int (iz p1)]) (rest := []) ⟨hx, hb, hml, hown, hts⟩ (k_putNumber l dC dI mo ma cs I F p1 s.heap.size hB hdr (by omega)) (cwV 1 hts (kx_gV kq_09_mput_20 kq_09_mput_21 kq_09_mput_22 kq_04_msmall_6 kq_09_mput_23 rfl) rfl rfl rfl (by decide +kernel) ⟨Nat.le_of_ble_eq_true rfl, Nat.le_of_ble_eq_true rfl⟩) hP hD hK hG hZ hS hA rfl hl.1 rfl (Nat.le_of_ble_eq_true rfl) dX6_putOne_19 ⟨Nat.le_of_ble_eq_true rfl, Nat.le_of_ble_eq_true rfl⟩ (fun I_16 F_17 H locs hq_15 hP hD hS => ?_)
      try dsimp only at hq_15
      obtain ⟨hB18, hf18, hd18⟩ := hq_15
      refine lv_goto (tgt := 66) hx hb dX6_putOne_22 (by decide) ?_
      exact mk_ret hx hb hr hlocks hP hD hK hS dX6_putOne_66 (⟨hB18, (mfr.rf.tr (hf18.mono (by decide) (by decide))), hd18⟩)
  · skip
    refine lv_aload_n hx hb dX6_putOne_4 rfl (lv_at hl 0 rfl) ?_
    refine lv_iload_n hx hb dX6_putOne_5 rfl (lv_at hl 2 rfl) ?_
    refine mk_callv (As := [.int (iz p1)]) (rest := []) ⟨hx, hb, hml, hown, hts⟩ (k_putSmallRoman l dC dI mo ma cs I F p1 s.heap.size hB hdr (by omega)) (cwV 1 hts (kx_gV kq_09_mput_24 kq_09_mput_25 kq_09_mput_26 kq_04_msmall_6 kq_09_mput_27 rfl) rfl rfl rfl (by decide +kernel) ⟨Nat.le_of_ble_eq_true rfl, Nat.le_of_ble_eq_true rfl⟩) hP hD hK hG hZ hS hA rfl hl.1 rfl (Nat.le_of_ble_eq_true rfl) dX6_putOne_6 ⟨Nat.le_of_ble_eq_true rfl, Nat.le_of_ble_eq_true rfl⟩ (fun I_21 F_22 H locs hq_20 hP hD hS => ?_)
    try dsimp only at hq_20
    obtain ⟨hB23, hf23, hd23⟩ := hq_20
    refine lv_goto (tgt := 66) hx hb dX6_putOne_9 (by decide) ?_
    exact mk_ret hx hb hr hlocks hP hD hK hS dX6_putOne_66 (⟨hB23, (mfr.rf.tr (hf23.mono (by decide) (by decide))), hd23⟩)
