/-! the reference, exact: gathering, locating -/

set_option maxHeartbeats 4000000 in
set_option maxRecDepth 100000 in
theorem k_take2 (l : Launch) (dC : Nat → ClassId) (dI : Nat → Nat → Nat) (mo : Nat) (ma : Nat → Nat) (cs : Nat → ClassId) (I : Nat → Int) (F : Nat → Int → Int) (kd : Int) (fr : Int) (to : Int) (rg : Int) (sz : Nat) (hB : mB I F) (hg : 0 ≤ I 29 ∧ I 29 ≤ 1699) (hgt : mGt (I 29) F) (hft : 0 ≤ fr ∧ fr ≤ to ∧ to ≤ 99999) (hkd1 : -2147483648 ≤ kd) (hkd2 : kd < 2147483648) (hrg : rg = 0 ∨ rg = 1) (hr01 : ∀ j, 0 ≤ j → j < I 29 → F 28 j = 0 ∨ F 28 j = 1) : mMv l yX6_take (.code yX6_take cX6_take 6 none) 0 0 dC dI mo ma cs I F [.ref mo, .int (iz kd), .int (iz fr), .int (iz to), .int (iz rg)] sz (fun (I' : Nat → Int) (F' : Nat → Int → Int) => va_up I 29 (I 29 + 1) = I' ∧ mB I' F' ∧ mfr [] [25, 26, 27, 28] I F I F' ∧ mGt (I 29 + 1) F' ∧ lo_X (lo_G (I 29) F) [(100000 * kd + fr, 100000 * kd + to, rg)] (lo_G (I 29 + 1) F')) := by
  refine Met.ofW (cc := cX6_take) (maxL := 6) (ret := none) (by decide) rfl ?_
  intro p e s m args below meth c s₁ B hml hv
  obtain ⟨rfl, hsz, hP, hK, hD0, hG, hZ⟩ := hv
  have hx := B.exec
  have hb := B.bytes
  have hr := B.returns
  have hts := kx_hts (a := ([.ref mo, .int (iz kd), .int (iz fr), .int (iz to), .int (iz rg)] : List Value).toArray) hG
  have hown : s.vm.findClass RX6 = some m.cls := findClass_of_methodNamed B.named
  have hlocks := B.notSynchronized
  subst hsz
  have hD := hD0.self (sz := s.heap.size)
  generalize hAe : va_A (mW mo ma cs I F) s.heap.size = A at hD hZ ⊢
  have hA : ∀ q : Nat, s.heap.size ≤ q → A q := fun q h => by rw [← hAe]; exact Or.inr h
  have hS : va_S A s.heap s.heap [] := va_S.rf
  have hl := lv_entry ([.ref mo, .int (iz kd), .int (iz fr), .int (iz to), .int (iz rg)]) (n := 6) (Nat.le_of_ble_eq_true rfl)
  rw [lg_entry_eq]
  generalize (lg_sl ([.ref mo, .int (iz kd), .int (iz fr), .int (iz to), .int (iz rg)]) ++ List.replicate (6 - (lg_sl ([.ref mo, .int (iz kd), .int (iz fr), .int (iz to), .int (iz rg)])).length) Slot.unset).toArray = ls at hl ⊢
  have hl : lv_has ls 6 [(0, .ref mo), (1, .int (iz kd)), (2, .int (iz fr)), (3, .int (iz to)), (4, .int (iz rg))] := hl
  generalize hQe : MQ below (mQv dC dI mo ma cs A (fun (I' : Nat → Int) (F' : Nat → Int → Int) => va_up I 29 (I 29 + 1) = I' ∧ mB I' F' ∧ mfr [] [25, 26, 27, 28] I F I F' ∧ mGt (I 29 + 1) F' ∧ lo_X (lo_G (I 29) F) [(100000 * kd + fr, 100000 * kd + to, rg)] (lo_G (I 29 + 1) F'))) ([.ref mo, .int (iz kd), .int (iz fr), .int (iz to), .int (iz rg)] : List Value).toArray s 0 0 A = QQ
  refine lv_aload_n hx hb dX6_take_0 rfl (lv_at hl 0 rfl) ?_
  refine va_get (D := (dC, dI)) (ci := 6) (v := .int (iz (I 29))) (C := RX6) (T := TX6) (N := 44) hx hb hts kt_X6 hown hK hP 0 rfl rfl 29 (by decide) (kx_word hG kq_08_mgather_0 rfl) (fun _ h9 => h9) rfl dX6_take_1 ?_
  have hbd_1 := hB.1 29
  refine lv_istore (lv' := [(5, .int (iz (I 29))), (0, .ref mo), (1, .int (iz kd)), (2, .int (iz fr)), (3, .int (iz to)), (4, .int (iz rg))]) hx hb dX6_take_4 hl (by decide) rfl (fun ls hl => ?_)
  have lp6 : ∀ (n : Nat) (ap : Int) (G : Nat → Int → Int), ((mB I G) ∧ (mfr [] [25, 26, 27, 28] I F I G) ∧ (0 ≤ ap ∧ ap ≤ I 29) ∧ (mGt (I 29) G) ∧ (ap < I 29 → 0 ≤ G 26 (I 29) ∧ G 26 (I 29) ≤ G 27 (I 29) ∧ G 27 (I 29) ≤ 99999) ∧ (lo_sf (F 25) (G 25) (I 29) ap) ∧ (lo_sf (F 26) (G 26) (I 29) ap) ∧ (lo_sf (F 27) (G 27) (I 29) ap) ∧ (lo_sf (F 28) (G 28) (I 29) ap) ∧ (∀ i, ap ≤ i → i < I 29 → 100000 * kd + fr < lo_pp (F 25) (F 26) i)) → (ap).toNat < n → ∀ (H : Heap) (locs : List Loc), va_P (dC, dI) kxCl (mW mo ma cs I G) H → va_D A (mW mo ma cs I G) → va_S A s.heap H locs → ∀ ls : Array Slot, lv_has ls 6 [(5, .int (iz ap)), (0, .ref mo), (1, .int (iz kd)), (2, .int (iz fr)), (3, .int (iz to)), (4, .int (iz rg))] → W p l e (headSpec [.code yX6_take cX6_take 6 none] ({ frames := 0, cells := 0, slots := 0, locals := 0 })).room s m ([.ref mo, .int (iz kd), .int (iz fr), .int (iz to), .int (iz rg)] : List Value).toArray below meth c H locs 0 0 QQ (F0 m 6 ls []) := by
    intro n
    induction n with
    | zero => intro ap G hinv hm; exact absurd hm (Nat.not_lt_zero _)
    | succ n ih6 =>
      intro ap G hinv hm H locs hP hD hS ls hl
      obtain ⟨hBG, hfG, hap, hb1, hb2, s25, s26, s27, s28, hgt9⟩ := hinv
      refine lv_iload hx hb dX6_take_6 (lv_at hl 0 rfl) ?_
      refine ki_if_le (tgt := 120) hx hb dX6_take_8 (by decide) (by omega) (by omega) (fun c_2 => ?_) (fun c_2 => ?_)
      · skip
        refine lv_aload_n hx hb dX6_take_120 rfl (lv_at hl 1 rfl) ?_
        refine va_get (D := (dC, dI)) (ci := 6) (v := .ref (ma 25)) (C := RX6) (T := TX6) (N := 44) hx hb hts kt_X6 hown hK hP 0 rfl rfl 25 (by decide) (kx_word hG kq_08_mgather_1 rfl) (fun _ h9 => h9) rfl dX6_take_121 ?_
        refine lv_iload hx hb dX6_take_124 (lv_at hl 0 rfl) ?_
        refine lv_iload_n hx hb dX6_take_126 rfl (lv_at hl 2 rfl) ?_
        refine ki_iast (F := G 25) hx hb hK hP hD hS 20 19 rfl rfl (by omega) (by omega) (by decide) dX6_take_127 (fun H locs hP hD hS => ?_)
        have hP : va_P (dC, dI) kxCl (mW mo ma cs I (va_up G 25 (upI (G 25) ap kd))) H := hP
        have hD : va_D A (mW mo ma cs I (va_up G 25 (upI (G 25) ap kd))) := hD
        refine lv_aload_n hx hb dX6_take_128 rfl (lv_at hl 1 rfl) ?_
        refine va_get (D := (dC, dI)) (ci := 6) (v := .ref (ma 26)) (C := RX6) (T := TX6) (N := 44) hx hb hts kt_X6 hown hK hP 0 rfl rfl 26 (by decide) (kx_word hG kq_08_mgather_2 rfl) (fun _ h9 => h9) rfl dX6_take_129 ?_
        refine lv_iload hx hb dX6_take_132 (lv_at hl 0 rfl) ?_
        refine lv_iload_n hx hb dX6_take_134 rfl (lv_at hl 3 rfl) ?_
        refine ki_iast (F := G 26) hx hb hK hP hD hS 21 20 rfl rfl (by omega) (by omega) (by decide) dX6_take_135 (fun H locs hP hD hS => ?_)
        have hP : va_P (dC, dI) kxCl (mW mo ma cs I (va_up (va_up G 25 (upI (G 25) ap kd)) 26 (upI (G 26) ap fr))) H := hP
        have hD : va_D A (mW mo ma cs I (va_up (va_up G 25 (upI (G 25) ap kd)) 26 (upI (G 26) ap fr))) := hD
        refine lv_aload_n hx hb dX6_take_136 rfl (lv_at hl 1 rfl) ?_
        refine va_get (D := (dC, dI)) (ci := 6) (v := .ref (ma 27)) (C := RX6) (T := TX6) (N := 44) hx hb hts kt_X6 hown hK hP 0 rfl rfl 27 (by decide) (kx_word hG kq_08_mgather_3 rfl) (fun _ h9 => h9) rfl dX6_take_137 ?_
        refine lv_iload hx hb dX6_take_140 (lv_at hl 0 rfl) ?_
        refine lv_iload_n hx hb dX6_take_142 rfl (lv_at hl 4 rfl) ?_
        refine ki_iast (F := G 27) hx hb hK hP hD hS 22 21 rfl rfl (by omega) (by omega) (by decide) dX6_take_143 (fun H locs hP hD hS => ?_)
        have hP : va_P (dC, dI) kxCl (mW mo ma cs I (va_up (va_up (va_up G 25 (upI (G 25) ap kd)) 26 (upI (G 26) ap fr)) 27 (upI (G 27) ap to))) H := hP
        have hD : va_D A (mW mo ma cs I (va_up (va_up (va_up G 25 (upI (G 25) ap kd)) 26 (upI (G 26) ap fr)) 27 (upI (G 27) ap to))) := hD
        refine lv_aload_n hx hb dX6_take_144 rfl (lv_at hl 1 rfl) ?_
        refine va_get (D := (dC, dI)) (ci := 6) (v := .ref (ma 28)) (C := RX6) (T := TX6) (N := 44) hx hb hts kt_X6 hown hK hP 0 rfl rfl 28 (by decide) (kx_word hG kq_08_mgather_4 rfl) (fun _ h9 => h9) rfl dX6_take_145 ?_
        refine lv_iload hx hb dX6_take_148 (lv_at hl 0 rfl) ?_
        refine lv_iload hx hb dX6_take_150 (lv_at hl 5 rfl) ?_
        refine ki_zast (F := G 28) hx hb hK hP hD hS 23 22 rfl rfl (by omega) (by omega) (by decide) dX6_take_152 (fun H locs hP hD hS => ?_)
        have hP : va_P (dC, dI) kxCl (mW mo ma cs I (va_up (va_up (va_up (va_up G 25 (upI (G 25) ap kd)) 26 (upI (G 26) ap fr)) 27 (upI (G 27) ap to)) 28 (upI (G 28) ap (vp_nar .boolean (iz rg)).toInt))) H := hP
        have hD : va_D A (mW mo ma cs I (va_up (va_up (va_up (va_up G 25 (upI (G 25) ap kd)) 26 (upI (G 26) ap fr)) 27 (upI (G 27) ap to)) 28 (upI (G 28) ap (vp_nar .boolean (iz rg)).toInt))) := hD
        refine lv_aload_n hx hb dX6_take_153 rfl (lv_at hl 1 rfl) ?_
        refine lv_dup hx hb dX6_take_154 rfl ?_
        refine va_get (D := (dC, dI)) (ci := 6) (v := .int (iz (I 29))) (C := RX6) (T := TX6) (N := 44) hx hb hts kt_X6 hown hK hP 0 rfl rfl 29 (by decide) (kx_word hG kq_08_mgather_0 rfl) (fun _ h9 => h9) rfl dX6_take_155 ?_
        have hbd_3 := hBG.1 29
        refine lv_iconst (v := iz 1) hx hb dX6_take_158 (by decide) ?_
        refine ki_iadd hx hb dX6_take_159 ?_
        refine va_put (D := (dC, dI)) (ci := 6) (v := .int (iz ((I 29) + 1))) (ty := .int) (C := RX6) (T := TX6) (N := 44) hx hb hts kt_X6 tyX6 tyX6_ok nmX6 hown hK hP hD hS 0 rfl rfl 29 (by decide) (kx_word hG kq_08_mgather_0 rfl) (fun _ h9 => h9) rfl (by decide +kernel) rfl rfl (Nat.le_of_ble_eq_true rfl) dX6_take_160 (fun H locs hP hD hS => ?_)
        have hP : va_P (dC, dI) kxCl (mW mo ma cs (va_up I 29 ((I 29) + 1)) (va_up (va_up (va_up (va_up G 25 (upI (G 25) ap kd)) 26 (upI (G 26) ap fr)) 27 (upI (G 27) ap to)) 28 (upI (G 28) ap (vp_nar .boolean (iz rg)).toInt))) H := hP
        have hD : va_D A (mW mo ma cs (va_up I 29 ((I 29) + 1)) (va_up (va_up (va_up (va_up G 25 (upI (G 25) ap kd)) 26 (upI (G 26) ap fr)) 27 (upI (G 27) ap to)) 28 (upI (G 28) ap (vp_nar .boolean (iz rg)).toInt))) := hD
        rw [← hQe]
        exact mk_ret hx hb hr hlocks hP hD hK hS dX6_take_163 (⟨rfl, (mB_f (mB_f (mB_f (mB_f (mB_i hBG 29 (by omega) (by omega)) 25 ap (by omega) (by omega)) 26 ap (by omega) (by omega)) 27 ap (by omega) (by omega)) 28 ap (iz_lo _) (iz_hi _)), (mfr.upF (mfr.upF (mfr.upF (mfr.upF hfG (by decide) _) (by decide) _) (by decide) _) (by decide) _), mGt.put (F := G) (i := ap) (a := fr) (b := to) (fun j a b c9 => if h9 : j < I 29 then hb1 j a h9 else (by rw [show j = I 29 by omega]; exact hb2 (by omega))) rfl rfl hft, lo_G_in (F := F) (G := G) (by omega) s25 s26 s27 s28 rfl rfl rfl (show upI (G 28) ap ((vp_nar .boolean (iz rg)).toInt) = upI (G 28) ap rg by rw [lo_bz hrg]) (by omega) (by omega) (by first | exact Or.inl (by omega) | exact Or.inr (show 100000 * F 25 (ap - 1) + F 26 (ap - 1) ≤ 100000 * kd + fr by omega)) hgt9⟩)
      · skip
        have e25 := s25.1 (ap - 1) (by omega) (by omega)
        have e26 := s26.1 (ap - 1) (by omega) (by omega)
        have e28 := s28.1 (ap - 1) (by omega) (by omega)
        have hm9 := hgt (ap - 1) (by omega) (by omega)
        have h01 := hr01 (ap - 1) (by omega) (by omega)
        refine lv_aload_n hx hb dX6_take_11 rfl (lv_at hl 1 rfl) ?_
        refine va_get (D := (dC, dI)) (ci := 6) (v := .ref (ma 25)) (C := RX6) (T := TX6) (N := 44) hx hb hts kt_X6 hown hK hP 0 rfl rfl 25 (by decide) (kx_word hG kq_08_mgather_1 rfl) (fun _ h9 => h9) rfl dX6_take_12 ?_
        refine lv_iload hx hb dX6_take_15 (lv_at hl 0 rfl) ?_
        refine lv_iconst (v := iz 1) hx hb dX6_take_17 (by decide) ?_
        refine ki_isub hx hb dX6_take_18 ?_
        refine ki_iald (F := G 25) hx hb hK hP 20 19 rfl rfl (by omega) (by omega) (by decide) dX6_take_19 ?_
        have hbd_4 := hBG.2 25 (ap - 1)
        refine lv_iload_n hx hb dX6_take_20 rfl (lv_at hl 2 rfl) ?_
        refine ki_icmp_gt (tgt := 50) hx hb dX6_take_21 (by decide) (by omega) (by omega) (by omega) (by omega) (fun c_5 => ?_) (fun c_5 => ?_)
        · skip
          refine lv_aload_n hx hb dX6_take_50 rfl (lv_at hl 1 rfl) ?_
          refine va_get (D := (dC, dI)) (ci := 6) (v := .ref (ma 25)) (C := RX6) (T := TX6) (N := 44) hx hb hts kt_X6 hown hK hP 0 rfl rfl 25 (by decide) (kx_word hG kq_08_mgather_1 rfl) (fun _ h9 => h9) rfl dX6_take_51 ?_
          refine lv_iload hx hb dX6_take_54 (lv_at hl 0 rfl) ?_
          refine lv_aload_n hx hb dX6_take_56 rfl (lv_at hl 1 rfl) ?_
          refine va_get (D := (dC, dI)) (ci := 6) (v := .ref (ma 25)) (C := RX6) (T := TX6) (N := 44) hx hb hts kt_X6 hown hK hP 0 rfl rfl 25 (by decide) (kx_word hG kq_08_mgather_1 rfl) (fun _ h9 => h9) rfl dX6_take_57 ?_
          refine lv_iload hx hb dX6_take_60 (lv_at hl 0 rfl) ?_
          refine lv_iconst (v := iz 1) hx hb dX6_take_62 (by decide) ?_
          refine ki_isub hx hb dX6_take_63 ?_
          refine ki_iald (F := G 25) hx hb hK hP 20 19 rfl rfl (by omega) (by omega) (by decide) dX6_take_64 ?_
          refine ki_iast (F := G 25) hx hb hK hP hD hS 20 19 rfl rfl (by omega) (by omega) (by decide) dX6_take_65 (fun H locs hP hD hS => ?_)
          have hP : va_P (dC, dI) kxCl (mW mo ma cs I (va_up G 25 (upI (G 25) ap (G 25 (ap - 1))))) H := hP
          have hD : va_D A (mW mo ma cs I (va_up G 25 (upI (G 25) ap (G 25 (ap - 1))))) := hD
          refine lv_aload_n hx hb dX6_take_66 rfl (lv_at hl 1 rfl) ?_
          refine va_get (D := (dC, dI)) (ci := 6) (v := .ref (ma 26)) (C := RX6) (T := TX6) (N := 44) hx hb hts kt_X6 hown hK hP 0 rfl rfl 26 (by decide) (kx_word hG kq_08_mgather_2 rfl) (fun _ h9 => h9) rfl dX6_take_67 ?_
          refine lv_iload hx hb dX6_take_70 (lv_at hl 0 rfl) ?_
          refine lv_aload_n hx hb dX6_take_72 rfl (lv_at hl 1 rfl) ?_
          refine va_get (D := (dC, dI)) (ci := 6) (v := .ref (ma 26)) (C := RX6) (T := TX6) (N := 44) hx hb hts kt_X6 hown hK hP 0 rfl rfl 26 (by decide) (kx_word hG kq_08_mgather_2 rfl) (fun _ h9 => h9) rfl dX6_take_73 ?_
          refine lv_iload hx hb dX6_take_76 (lv_at hl 0 rfl) ?_
          refine lv_iconst (v := iz 1) hx hb dX6_take_78 (by decide) ?_
          refine ki_isub hx hb dX6_take_79 ?_
          refine ki_iald (F := G 26) hx hb hK hP 21 20 rfl rfl (by omega) (by omega) (by decide) dX6_take_80 ?_
          have hbd_6 := hBG.2 26 (ap - 1)
          refine ki_iast (F := G 26) hx hb hK hP hD hS 21 20 rfl rfl (by omega) (by omega) (by decide) dX6_take_81 (fun H locs hP hD hS => ?_)
          have hP : va_P (dC, dI) kxCl (mW mo ma cs I (va_up (va_up G 25 (upI (G 25) ap (G 25 (ap - 1)))) 26 (upI (G 26) ap (G 26 (ap - 1))))) H := hP
          have hD : va_D A (mW mo ma cs I (va_up (va_up G 25 (upI (G 25) ap (G 25 (ap - 1)))) 26 (upI (G 26) ap (G 26 (ap - 1))))) := hD
          refine lv_aload_n hx hb dX6_take_82 rfl (lv_at hl 1 rfl) ?_
          refine va_get (D := (dC, dI)) (ci := 6) (v := .ref (ma 27)) (C := RX6) (T := TX6) (N := 44) hx hb hts kt_X6 hown hK hP 0 rfl rfl 27 (by decide) (kx_word hG kq_08_mgather_3 rfl) (fun _ h9 => h9) rfl dX6_take_83 ?_
          refine lv_iload hx hb dX6_take_86 (lv_at hl 0 rfl) ?_
          refine lv_aload_n hx hb dX6_take_88 rfl (lv_at hl 1 rfl) ?_
          refine va_get (D := (dC, dI)) (ci := 6) (v := .ref (ma 27)) (C := RX6) (T := TX6) (N := 44) hx hb hts kt_X6 hown hK hP 0 rfl rfl 27 (by decide) (kx_word hG kq_08_mgather_3 rfl) (fun _ h9 => h9) rfl dX6_take_89 ?_
          refine lv_iload hx hb dX6_take_92 (lv_at hl 0 rfl) ?_
          refine lv_iconst (v := iz 1) hx hb dX6_take_94 (by decide) ?_
          refine ki_isub hx hb dX6_take_95 ?_
          refine ki_iald (F := G 27) hx hb hK hP 22 21 rfl rfl (by omega) (by omega) (by decide) dX6_take_96 ?_
          have hbd_7 := hBG.2 27 (ap - 1)
          refine ki_iast (F := G 27) hx hb hK hP hD hS 22 21 rfl rfl (by omega) (by omega) (by decide) dX6_take_97 (fun H locs hP hD hS => ?_)
          have hP : va_P (dC, dI) kxCl (mW mo ma cs I (va_up (va_up (va_up G 25 (upI (G 25) ap (G 25 (ap - 1)))) 26 (upI (G 26) ap (G 26 (ap - 1)))) 27 (upI (G 27) ap (G 27 (ap - 1))))) H := hP
          have hD : va_D A (mW mo ma cs I (va_up (va_up (va_up G 25 (upI (G 25) ap (G 25 (ap - 1)))) 26 (upI (G 26) ap (G 26 (ap - 1)))) 27 (upI (G 27) ap (G 27 (ap - 1))))) := hD
          refine lv_aload_n hx hb dX6_take_98 rfl (lv_at hl 1 rfl) ?_
          refine va_get (D := (dC, dI)) (ci := 6) (v := .ref (ma 28)) (C := RX6) (T := TX6) (N := 44) hx hb hts kt_X6 hown hK hP 0 rfl rfl 28 (by decide) (kx_word hG kq_08_mgather_4 rfl) (fun _ h9 => h9) rfl dX6_take_99 ?_
          refine lv_iload hx hb dX6_take_102 (lv_at hl 0 rfl) ?_
          refine lv_aload_n hx hb dX6_take_104 rfl (lv_at hl 1 rfl) ?_
          refine va_get (D := (dC, dI)) (ci := 6) (v := .ref (ma 28)) (C := RX6) (T := TX6) (N := 44) hx hb hts kt_X6 hown hK hP 0 rfl rfl 28 (by decide) (kx_word hG kq_08_mgather_4 rfl) (fun _ h9 => h9) rfl dX6_take_105 ?_
          refine lv_iload hx hb dX6_take_108 (lv_at hl 0 rfl) ?_
          refine lv_iconst (v := iz 1) hx hb dX6_take_110 (by decide) ?_
          refine ki_isub hx hb dX6_take_111 ?_
          refine ki_zald (F := G 28) hx hb hK hP 23 22 rfl rfl (by omega) (by omega) (by decide) dX6_take_112 ?_
          have hbd_8 := hBG.2 28 (ap - 1)
          refine ki_zast (F := G 28) hx hb hK hP hD hS 23 22 rfl rfl (by omega) (by omega) (by decide) dX6_take_113 (fun H locs hP hD hS => ?_)
          have hP : va_P (dC, dI) kxCl (mW mo ma cs I (va_up (va_up (va_up (va_up G 25 (upI (G 25) ap (G 25 (ap - 1)))) 26 (upI (G 26) ap (G 26 (ap - 1)))) 27 (upI (G 27) ap (G 27 (ap - 1)))) 28 (upI (G 28) ap (vp_nar .boolean (iz (G 28 (ap - 1)))).toInt))) H := hP
          have hD : va_D A (mW mo ma cs I (va_up (va_up (va_up (va_up G 25 (upI (G 25) ap (G 25 (ap - 1)))) 26 (upI (G 26) ap (G 26 (ap - 1)))) 27 (upI (G 27) ap (G 27 (ap - 1)))) 28 (upI (G 28) ap (vp_nar .boolean (iz (G 28 (ap - 1)))).toInt))) := hD
          refine lv_iinc (v := iz (ap + (-1))) (lv' := [(5, .int (iz (ap + (-1)))), (0, .ref mo), (1, .int (iz kd)), (2, .int (iz fr)), (3, .int (iz to)), (4, .int (iz rg))]) hx hb dX6_take_114 hl (k := 0) rfl (iz_add ap (-1)) (by decide) rfl (fun ls hl => ?_)
          refine lv_goto (tgt := 6) hx hb dX6_take_117 (by decide) ?_
          exact ih6 (ap + (-1)) (va_up (va_up (va_up (va_up G 25 (upI (G 25) ap (G 25 (ap - 1)))) 26 (upI (G 26) ap (G 26 (ap - 1)))) 27 (upI (G 27) ap (G 27 (ap - 1)))) 28 (upI (G 28) ap (vp_nar .boolean (iz (G 28 (ap - 1)))).toInt)) ⟨(mB_f (mB_f (mB_f (mB_f hBG 25 ap (by omega) (by omega)) 26 ap (by omega) (by omega)) 27 ap (by omega) (by omega)) 28 ap (iz_lo _) (iz_hi _)), (mfr.upF (mfr.upF (mfr.upF (mfr.upF hfG (by decide) _) (by decide) _) (by decide) _) (by decide) _), by omega, mGt.put (F := G) (i := ap) (a := G 26 (ap - 1)) (b := G 27 (ap - 1)) (fun j a b _ => hb1 j a b) rfl rfl (hb1 (ap - 1) (by omega) (by omega)), fun h => mGt.put1 (F := G) (i := ap) (a := G 26 (ap - 1)) (b := G 27 (ap - 1)) (fun h9 => hb2 (by omega)) rfl rfl (hb1 (ap - 1) (by omega) (by omega)), (by show lo_sf (F 25) (upI (G 25) ap (G 25 (ap - 1))) (I 29) (ap + (-1)); rw [show ap + (-1) = ap - 1 by omega]; exact lo_sf_st s25 (by omega) rfl), (by show lo_sf (F 26) (upI (G 26) ap (G 26 (ap - 1))) (I 29) (ap + (-1)); rw [show ap + (-1) = ap - 1 by omega]; exact lo_sf_st s26 (by omega) rfl), (by show lo_sf (F 27) (upI (G 27) ap (G 27 (ap - 1))) (I 29) (ap + (-1)); rw [show ap + (-1) = ap - 1 by omega]; exact lo_sf_st s27 (by omega) rfl), (by show lo_sf (F 28) (upI (G 28) ap ((vp_nar .boolean (iz (G 28 (ap - 1)))).toInt)) (I 29) (ap + (-1)); rw [show ap + (-1) = ap - 1 by omega]; exact lo_sf_st s28 (by omega) (lo_bz (by omega))), fun i a b => by by_cases c9 : i = ap - 1; (rw [c9]; show 100000 * kd + fr < 100000 * F 25 (ap - 1) + F 26 (ap - 1); omega); exact hgt9 i (by omega) b⟩ (by omega) _ _ hP hD hS ls (lv_sub hl [0, 1, 2, 3, 4, 5] rfl)
        · skip
          refine lv_aload_n hx hb dX6_take_24 rfl (lv_at hl 1 rfl) ?_
          refine va_get (D := (dC, dI)) (ci := 6) (v := .ref (ma 25)) (C := RX6) (T := TX6) (N := 44) hx hb hts kt_X6 hown hK hP 0 rfl rfl 25 (by decide) (kx_word hG kq_08_mgather_1 rfl) (fun _ h9 => h9) rfl dX6_take_25 ?_
          refine lv_iload hx hb dX6_take_28 (lv_at hl 0 rfl) ?_
          refine lv_iconst (v := iz 1) hx hb dX6_take_30 (by decide) ?_
          refine ki_isub hx hb dX6_take_31 ?_
          refine ki_iald (F := G 25) hx hb hK hP 20 19 rfl rfl (by omega) (by omega) (by decide) dX6_take_32 ?_
          refine lv_iload_n hx hb dX6_take_33 rfl (lv_at hl 2 rfl) ?_
          refine ki_icmp_ne (tgt := 120) hx hb dX6_take_34 (by decide) (by omega) (by omega) (by omega) (by omega) (fun c_9 => ?_) (fun c_9 => ?_)
          · skip
            refine lv_aload_n hx hb dX6_take_120 rfl (lv_at hl 1 rfl) ?_
            refine va_get (D := (dC, dI)) (ci := 6) (v := .ref (ma 25)) (C := RX6) (T := TX6) (N := 44) hx hb hts kt_X6 hown hK hP 0 rfl rfl 25 (by decide) (kx_word hG kq_08_mgather_1 rfl) (fun _ h9 => h9) rfl dX6_take_121 ?_
            refine lv_iload hx hb dX6_take_124 (lv_at hl 0 rfl) ?_
            refine lv_iload_n hx hb dX6_take_126 rfl (lv_at hl 2 rfl) ?_
            refine ki_iast (F := G 25) hx hb hK hP hD hS 20 19 rfl rfl (by omega) (by omega) (by decide) dX6_take_127 (fun H locs hP hD hS => ?_)
            have hP : va_P (dC, dI) kxCl (mW mo ma cs I (va_up G 25 (upI (G 25) ap kd))) H := hP
            have hD : va_D A (mW mo ma cs I (va_up G 25 (upI (G 25) ap kd))) := hD
            refine lv_aload_n hx hb dX6_take_128 rfl (lv_at hl 1 rfl) ?_
            refine va_get (D := (dC, dI)) (ci := 6) (v := .ref (ma 26)) (C := RX6) (T := TX6) (N := 44) hx hb hts kt_X6 hown hK hP 0 rfl rfl 26 (by decide) (kx_word hG kq_08_mgather_2 rfl) (fun _ h9 => h9) rfl dX6_take_129 ?_
            refine lv_iload hx hb dX6_take_132 (lv_at hl 0 rfl) ?_
            refine lv_iload_n hx hb dX6_take_134 rfl (lv_at hl 3 rfl) ?_
            refine ki_iast (F := G 26) hx hb hK hP hD hS 21 20 rfl rfl (by omega) (by omega) (by decide) dX6_take_135 (fun H locs hP hD hS => ?_)
            have hP : va_P (dC, dI) kxCl (mW mo ma cs I (va_up (va_up G 25 (upI (G 25) ap kd)) 26 (upI (G 26) ap fr))) H := hP
            have hD : va_D A (mW mo ma cs I (va_up (va_up G 25 (upI (G 25) ap kd)) 26 (upI (G 26) ap fr))) := hD
            refine lv_aload_n hx hb dX6_take_136 rfl (lv_at hl 1 rfl) ?_
            refine va_get (D := (dC, dI)) (ci := 6) (v := .ref (ma 27)) (C := RX6) (T := TX6) (N := 44) hx hb hts kt_X6 hown hK hP 0 rfl rfl 27 (by decide) (kx_word hG kq_08_mgather_3 rfl) (fun _ h9 => h9) rfl dX6_take_137 ?_
            refine lv_iload hx hb dX6_take_140 (lv_at hl 0 rfl) ?_
            refine lv_iload_n hx hb dX6_take_142 rfl (lv_at hl 4 rfl) ?_
            refine ki_iast (F := G 27) hx hb hK hP hD hS 22 21 rfl rfl (by omega) (by omega) (by decide) dX6_take_143 (fun H locs hP hD hS => ?_)
            have hP : va_P (dC, dI) kxCl (mW mo ma cs I (va_up (va_up (va_up G 25 (upI (G 25) ap kd)) 26 (upI (G 26) ap fr)) 27 (upI (G 27) ap to))) H := hP
            have hD : va_D A (mW mo ma cs I (va_up (va_up (va_up G 25 (upI (G 25) ap kd)) 26 (upI (G 26) ap fr)) 27 (upI (G 27) ap to))) := hD
            refine lv_aload_n hx hb dX6_take_144 rfl (lv_at hl 1 rfl) ?_
            refine va_get (D := (dC, dI)) (ci := 6) (v := .ref (ma 28)) (C := RX6) (T := TX6) (N := 44) hx hb hts kt_X6 hown hK hP 0 rfl rfl 28 (by decide) (kx_word hG kq_08_mgather_4 rfl) (fun _ h9 => h9) rfl dX6_take_145 ?_
            refine lv_iload hx hb dX6_take_148 (lv_at hl 0 rfl) ?_
            refine lv_iload hx hb dX6_take_150 (lv_at hl 5 rfl) ?_
            refine ki_zast (F := G 28) hx hb hK hP hD hS 23 22 rfl rfl (by omega) (by omega) (by decide) dX6_take_152 (fun H locs hP hD hS => ?_)
            have hP : va_P (dC, dI) kxCl (mW mo ma cs I (va_up (va_up (va_up (va_up G 25 (upI (G 25) ap kd)) 26 (upI (G 26) ap fr)) 27 (upI (G 27) ap to)) 28 (upI (G 28) ap (vp_nar .boolean (iz rg)).toInt))) H := hP
            have hD : va_D A (mW mo ma cs I (va_up (va_up (va_up (va_up G 25 (upI (G 25) ap kd)) 26 (upI (G 26) ap fr)) 27 (upI (G 27) ap to)) 28 (upI (G 28) ap (vp_nar .boolean (iz rg)).toInt))) := hD
            refine lv_aload_n hx hb dX6_take_153 rfl (lv_at hl 1 rfl) ?_
            refine lv_dup hx hb dX6_take_154 rfl ?_
            refine va_get (D := (dC, dI)) (ci := 6) (v := .int (iz (I 29))) (C := RX6) (T := TX6) (N := 44) hx hb hts kt_X6 hown hK hP 0 rfl rfl 29 (by decide) (kx_word hG kq_08_mgather_0 rfl) (fun _ h9 => h9) rfl dX6_take_155 ?_
            have hbd_10 := hBG.1 29
            refine lv_iconst (v := iz 1) hx hb dX6_take_158 (by decide) ?_
            refine ki_iadd hx hb dX6_take_159 ?_
            refine va_put (D := (dC, dI)) (ci := 6) (v := .int (iz ((I 29) + 1))) (ty := .int) (C := RX6) (T := TX6) (N := 44) hx hb hts kt_X6 tyX6 tyX6_ok nmX6 hown hK hP hD hS 0 rfl rfl 29 (by decide) (kx_word hG kq_08_mgather_0 rfl) (fun _ h9 => h9) rfl (by decide +kernel) rfl rfl (Nat.le_of_ble_eq_true rfl) dX6_take_160 (fun H locs hP hD hS => ?_)
            have hP : va_P (dC, dI) kxCl (mW mo ma cs (va_up I 29 ((I 29) + 1)) (va_up (va_up (va_up (va_up G 25 (upI (G 25) ap kd)) 26 (upI (G 26) ap fr)) 27 (upI (G 27) ap to)) 28 (upI (G 28) ap (vp_nar .boolean (iz rg)).toInt))) H := hP
            have hD : va_D A (mW mo ma cs (va_up I 29 ((I 29) + 1)) (va_up (va_up (va_up (va_up G 25 (upI (G 25) ap kd)) 26 (upI (G 26) ap fr)) 27 (upI (G 27) ap to)) 28 (upI (G 28) ap (vp_nar .boolean (iz rg)).toInt))) := hD
            rw [← hQe]
            exact mk_ret hx hb hr hlocks hP hD hK hS dX6_take_163 (⟨rfl, (mB_f (mB_f (mB_f (mB_f (mB_i hBG 29 (by omega) (by omega)) 25 ap (by omega) (by omega)) 26 ap (by omega) (by omega)) 27 ap (by omega) (by omega)) 28 ap (iz_lo _) (iz_hi _)), (mfr.upF (mfr.upF (mfr.upF (mfr.upF hfG (by decide) _) (by decide) _) (by decide) _) (by decide) _), mGt.put (F := G) (i := ap) (a := fr) (b := to) (fun j a b c9 => if h9 : j < I 29 then hb1 j a h9 else (by rw [show j = I 29 by omega]; exact hb2 (by omega))) rfl rfl hft, lo_G_in (F := F) (G := G) (by omega) s25 s26 s27 s28 rfl rfl rfl (show upI (G 28) ap ((vp_nar .boolean (iz rg)).toInt) = upI (G 28) ap rg by rw [lo_bz hrg]) (by omega) (by omega) (by first | exact Or.inl (by omega) | exact Or.inr (show 100000 * F 25 (ap - 1) + F 26 (ap - 1) ≤ 100000 * kd + fr by omega)) hgt9⟩)
          · skip
            refine lv_aload_n hx hb dX6_take_37 rfl (lv_at hl 1 rfl) ?_
            refine va_get (D := (dC, dI)) (ci := 6) (v := .ref (ma 26)) (C := RX6) (T := TX6) (N := 44) hx hb hts kt_X6 hown hK hP 0 rfl rfl 26 (by decide) (kx_word hG kq_08_mgather_2 rfl) (fun _ h9 => h9) rfl dX6_take_38 ?_
            refine lv_iload hx hb dX6_take_41 (lv_at hl 0 rfl) ?_
            refine lv_iconst (v := iz 1) hx hb dX6_take_43 (by decide) ?_
            refine ki_isub hx hb dX6_take_44 ?_
            refine ki_iald (F := G 26) hx hb hK hP 21 20 rfl rfl (by omega) (by omega) (by decide) dX6_take_45 ?_
            have hbd_11 := hBG.2 26 (ap - 1)
            refine lv_iload_n hx hb dX6_take_46 rfl (lv_at hl 3 rfl) ?_
            refine ki_icmp_le (tgt := 120) hx hb dX6_take_47 (by decide) (by omega) (by omega) (by omega) (by omega) (fun c_12 => ?_) (fun c_12 => ?_)
            · skip
              refine lv_aload_n hx hb dX6_take_120 rfl (lv_at hl 1 rfl) ?_
              refine va_get (D := (dC, dI)) (ci := 6) (v := .ref (ma 25)) (C := RX6) (T := TX6) (N := 44) hx hb hts kt_X6 hown hK hP 0 rfl rfl 25 (by decide) (kx_word hG kq_08_mgather_1 rfl) (fun _ h9 => h9) rfl dX6_take_121 ?_
              refine lv_iload hx hb dX6_take_124 (lv_at hl 0 rfl) ?_
              refine lv_iload_n hx hb dX6_take_126 rfl (lv_at hl 2 rfl) ?_
              refine ki_iast (F := G 25) hx hb hK hP hD hS 20 19 rfl rfl (by omega) (by omega) (by decide) dX6_take_127 (fun H locs hP hD hS => ?_)
              have hP : va_P (dC, dI) kxCl (mW mo ma cs I (va_up G 25 (upI (G 25) ap kd))) H := hP
              have hD : va_D A (mW mo ma cs I (va_up G 25 (upI (G 25) ap kd))) := hD
              refine lv_aload_n hx hb dX6_take_128 rfl (lv_at hl 1 rfl) ?_
              refine va_get (D := (dC, dI)) (ci := 6) (v := .ref (ma 26)) (C := RX6) (T := TX6) (N := 44) hx hb hts kt_X6 hown hK hP 0 rfl rfl 26 (by decide) (kx_word hG kq_08_mgather_2 rfl) (fun _ h9 => h9) rfl dX6_take_129 ?_
              refine lv_iload hx hb dX6_take_132 (lv_at hl 0 rfl) ?_
              refine lv_iload_n hx hb dX6_take_134 rfl (lv_at hl 3 rfl) ?_
              refine ki_iast (F := G 26) hx hb hK hP hD hS 21 20 rfl rfl (by omega) (by omega) (by decide) dX6_take_135 (fun H locs hP hD hS => ?_)
              have hP : va_P (dC, dI) kxCl (mW mo ma cs I (va_up (va_up G 25 (upI (G 25) ap kd)) 26 (upI (G 26) ap fr))) H := hP
              have hD : va_D A (mW mo ma cs I (va_up (va_up G 25 (upI (G 25) ap kd)) 26 (upI (G 26) ap fr))) := hD
              refine lv_aload_n hx hb dX6_take_136 rfl (lv_at hl 1 rfl) ?_
              refine va_get (D := (dC, dI)) (ci := 6) (v := .ref (ma 27)) (C := RX6) (T := TX6) (N := 44) hx hb hts kt_X6 hown hK hP 0 rfl rfl 27 (by decide) (kx_word hG kq_08_mgather_3 rfl) (fun _ h9 => h9) rfl dX6_take_137 ?_
              refine lv_iload hx hb dX6_take_140 (lv_at hl 0 rfl) ?_
              refine lv_iload_n hx hb dX6_take_142 rfl (lv_at hl 4 rfl) ?_
              refine ki_iast (F := G 27) hx hb hK hP hD hS 22 21 rfl rfl (by omega) (by omega) (by decide) dX6_take_143 (fun H locs hP hD hS => ?_)
              have hP : va_P (dC, dI) kxCl (mW mo ma cs I (va_up (va_up (va_up G 25 (upI (G 25) ap kd)) 26 (upI (G 26) ap fr)) 27 (upI (G 27) ap to))) H := hP
              have hD : va_D A (mW mo ma cs I (va_up (va_up (va_up G 25 (upI (G 25) ap kd)) 26 (upI (G 26) ap fr)) 27 (upI (G 27) ap to))) := hD
              refine lv_aload_n hx hb dX6_take_144 rfl (lv_at hl 1 rfl) ?_
              refine va_get (D := (dC, dI)) (ci := 6) (v := .ref (ma 28)) (C := RX6) (T := TX6) (N := 44) hx hb hts kt_X6 hown hK hP 0 rfl rfl 28 (by decide) (kx_word hG kq_08_mgather_4 rfl) (fun _ h9 => h9) rfl dX6_take_145 ?_
              refine lv_iload hx hb dX6_take_148 (lv_at hl 0 rfl) ?_
              refine lv_iload hx hb dX6_take_150 (lv_at hl 5 rfl) ?_
              refine ki_zast (F := G 28) hx hb hK hP hD hS 23 22 rfl rfl (by omega) (by omega) (by decide) dX6_take_152 (fun H locs hP hD hS => ?_)
              have hP : va_P (dC, dI) kxCl (mW mo ma cs I (va_up (va_up (va_up (va_up G 25 (upI (G 25) ap kd)) 26 (upI (G 26) ap fr)) 27 (upI (G 27) ap to)) 28 (upI (G 28) ap (vp_nar .boolean (iz rg)).toInt))) H := hP
              have hD : va_D A (mW mo ma cs I (va_up (va_up (va_up (va_up G 25 (upI (G 25) ap kd)) 26 (upI (G 26) ap fr)) 27 (upI (G 27) ap to)) 28 (upI (G 28) ap (vp_nar .boolean (iz rg)).toInt))) := hD
              refine lv_aload_n hx hb dX6_take_153 rfl (lv_at hl 1 rfl) ?_
              refine lv_dup hx hb dX6_take_154 rfl ?_
              refine va_get (D := (dC, dI)) (ci := 6) (v := .int (iz (I 29))) (C := RX6) (T := TX6) (N := 44) hx hb hts kt_X6 hown hK hP 0 rfl rfl 29 (by decide) (kx_word hG kq_08_mgather_0 rfl) (fun _ h9 => h9) rfl dX6_take_155 ?_
              have hbd_13 := hBG.1 29
              refine lv_iconst (v := iz 1) hx hb dX6_take_158 (by decide) ?_
              refine ki_iadd hx hb dX6_take_159 ?_
              refine va_put (D := (dC, dI)) (ci := 6) (v := .int (iz ((I 29) + 1))) (ty := .int) (C := RX6) (T := TX6) (N := 44) hx hb hts kt_X6 tyX6 tyX6_ok nmX6 hown hK hP hD hS 0 rfl rfl 29 (by decide) (kx_word hG kq_08_mgather_0 rfl) (fun _ h9 => h9) rfl (by decide +kernel) rfl rfl (Nat.le_of_ble_eq_true rfl) dX6_take_160 (fun H locs hP hD hS => ?_)
              have hP : va_P (dC, dI) kxCl (mW mo ma cs (va_up I 29 ((I 29) + 1)) (va_up (va_up (va_up (va_up G 25 (upI (G 25) ap kd)) 26 (upI (G 26) ap fr)) 27 (upI (G 27) ap to)) 28 (upI (G 28) ap (vp_nar .boolean (iz rg)).toInt))) H := hP
              have hD : va_D A (mW mo ma cs (va_up I 29 ((I 29) + 1)) (va_up (va_up (va_up (va_up G 25 (upI (G 25) ap kd)) 26 (upI (G 26) ap fr)) 27 (upI (G 27) ap to)) 28 (upI (G 28) ap (vp_nar .boolean (iz rg)).toInt))) := hD
              rw [← hQe]
              exact mk_ret hx hb hr hlocks hP hD hK hS dX6_take_163 (⟨rfl, (mB_f (mB_f (mB_f (mB_f (mB_i hBG 29 (by omega) (by omega)) 25 ap (by omega) (by omega)) 26 ap (by omega) (by omega)) 27 ap (by omega) (by omega)) 28 ap (iz_lo _) (iz_hi _)), (mfr.upF (mfr.upF (mfr.upF (mfr.upF hfG (by decide) _) (by decide) _) (by decide) _) (by decide) _), mGt.put (F := G) (i := ap) (a := fr) (b := to) (fun j a b c9 => if h9 : j < I 29 then hb1 j a h9 else (by rw [show j = I 29 by omega]; exact hb2 (by omega))) rfl rfl hft, lo_G_in (F := F) (G := G) (by omega) s25 s26 s27 s28 rfl rfl rfl (show upI (G 28) ap ((vp_nar .boolean (iz rg)).toInt) = upI (G 28) ap rg by rw [lo_bz hrg]) (by omega) (by omega) (by first | exact Or.inl (by omega) | exact Or.inr (show 100000 * F 25 (ap - 1) + F 26 (ap - 1) ≤ 100000 * kd + fr by omega)) hgt9⟩)
            · skip
              refine lv_aload_n hx hb dX6_take_50 rfl (lv_at hl 1 rfl) ?_
              refine va_get (D := (dC, dI)) (ci := 6) (v := .ref (ma 25)) (C := RX6) (T := TX6) (N := 44) hx hb hts kt_X6 hown hK hP 0 rfl rfl 25 (by decide) (kx_word hG kq_08_mgather_1 rfl) (fun _ h9 => h9) rfl dX6_take_51 ?_
              refine lv_iload hx hb dX6_take_54 (lv_at hl 0 rfl) ?_
              refine lv_aload_n hx hb dX6_take_56 rfl (lv_at hl 1 rfl) ?_
              refine va_get (D := (dC, dI)) (ci := 6) (v := .ref (ma 25)) (C := RX6) (T := TX6) (N := 44) hx hb hts kt_X6 hown hK hP 0 rfl rfl 25 (by decide) (kx_word hG kq_08_mgather_1 rfl) (fun _ h9 => h9) rfl dX6_take_57 ?_
              refine lv_iload hx hb dX6_take_60 (lv_at hl 0 rfl) ?_
              refine lv_iconst (v := iz 1) hx hb dX6_take_62 (by decide) ?_
              refine ki_isub hx hb dX6_take_63 ?_
              refine ki_iald (F := G 25) hx hb hK hP 20 19 rfl rfl (by omega) (by omega) (by decide) dX6_take_64 ?_
              refine ki_iast (F := G 25) hx hb hK hP hD hS 20 19 rfl rfl (by omega) (by omega) (by decide) dX6_take_65 (fun H locs hP hD hS => ?_)
              have hP : va_P (dC, dI) kxCl (mW mo ma cs I (va_up G 25 (upI (G 25) ap (G 25 (ap - 1))))) H := hP
              have hD : va_D A (mW mo ma cs I (va_up G 25 (upI (G 25) ap (G 25 (ap - 1))))) := hD
              refine lv_aload_n hx hb dX6_take_66 rfl (lv_at hl 1 rfl) ?_
              refine va_get (D := (dC, dI)) (ci := 6) (v := .ref (ma 26)) (C := RX6) (T := TX6) (N := 44) hx hb hts kt_X6 hown hK hP 0 rfl rfl 26 (by decide) (kx_word hG kq_08_mgather_2 rfl) (fun _ h9 => h9) rfl dX6_take_67 ?_
              refine lv_iload hx hb dX6_take_70 (lv_at hl 0 rfl) ?_
              refine lv_aload_n hx hb dX6_take_72 rfl (lv_at hl 1 rfl) ?_
              refine va_get (D := (dC, dI)) (ci := 6) (v := .ref (ma 26)) (C := RX6) (T := TX6) (N := 44) hx hb hts kt_X6 hown hK hP 0 rfl rfl 26 (by decide) (kx_word hG kq_08_mgather_2 rfl) (fun _ h9 => h9) rfl dX6_take_73 ?_
              refine lv_iload hx hb dX6_take_76 (lv_at hl 0 rfl) ?_
              refine lv_iconst (v := iz 1) hx hb dX6_take_78 (by decide) ?_
              refine ki_isub hx hb dX6_take_79 ?_
              refine ki_iald (F := G 26) hx hb hK hP 21 20 rfl rfl (by omega) (by omega) (by decide) dX6_take_80 ?_
              refine ki_iast (F := G 26) hx hb hK hP hD hS 21 20 rfl rfl (by omega) (by omega) (by decide) dX6_take_81 (fun H locs hP hD hS => ?_)
              have hP : va_P (dC, dI) kxCl (mW mo ma cs I (va_up (va_up G 25 (upI (G 25) ap (G 25 (ap - 1)))) 26 (upI (G 26) ap (G 26 (ap - 1))))) H := hP
              have hD : va_D A (mW mo ma cs I (va_up (va_up G 25 (upI (G 25) ap (G 25 (ap - 1)))) 26 (upI (G 26) ap (G 26 (ap - 1))))) := hD
              refine lv_aload_n hx hb dX6_take_82 rfl (lv_at hl 1 rfl) ?_
              refine va_get (D := (dC, dI)) (ci := 6) (v := .ref (ma 27)) (C := RX6) (T := TX6) (N := 44) hx hb hts kt_X6 hown hK hP 0 rfl rfl 27 (by decide) (kx_word hG kq_08_mgather_3 rfl) (fun _ h9 => h9) rfl dX6_take_83 ?_
              refine lv_iload hx hb dX6_take_86 (lv_at hl 0 rfl) ?_
              refine lv_aload_n hx hb dX6_take_88 rfl (lv_at hl 1 rfl) ?_
              refine va_get (D := (dC, dI)) (ci := 6) (v := .ref (ma 27)) (C := RX6) (T := TX6) (N := 44) hx hb hts kt_X6 hown hK hP 0 rfl rfl 27 (by decide) (kx_word hG kq_08_mgather_3 rfl) (fun _ h9 => h9) rfl dX6_take_89 ?_
              refine lv_iload hx hb dX6_take_92 (lv_at hl 0 rfl) ?_
              refine lv_iconst (v := iz 1) hx hb dX6_take_94 (by decide) ?_
              refine ki_isub hx hb dX6_take_95 ?_
              refine ki_iald (F := G 27) hx hb hK hP 22 21 rfl rfl (by omega) (by omega) (by decide) dX6_take_96 ?_
              have hbd_14 := hBG.2 27 (ap - 1)
              refine ki_iast (F := G 27) hx hb hK hP hD hS 22 21 rfl rfl (by omega) (by omega) (by decide) dX6_take_97 (fun H locs hP hD hS => ?_)
              have hP : va_P (dC, dI) kxCl (mW mo ma cs I (va_up (va_up (va_up G 25 (upI (G 25) ap (G 25 (ap - 1)))) 26 (upI (G 26) ap (G 26 (ap - 1)))) 27 (upI (G 27) ap (G 27 (ap - 1))))) H := hP
              have hD : va_D A (mW mo ma cs I (va_up (va_up (va_up G 25 (upI (G 25) ap (G 25 (ap - 1)))) 26 (upI (G 26) ap (G 26 (ap - 1)))) 27 (upI (G 27) ap (G 27 (ap - 1))))) := hD
              refine lv_aload_n hx hb dX6_take_98 rfl (lv_at hl 1 rfl) ?_
              refine va_get (D := (dC, dI)) (ci := 6) (v := .ref (ma 28)) (C := RX6) (T := TX6) (N := 44) hx hb hts kt_X6 hown hK hP 0 rfl rfl 28 (by decide) (kx_word hG kq_08_mgather_4 rfl) (fun _ h9 => h9) rfl dX6_take_99 ?_
              refine lv_iload hx hb dX6_take_102 (lv_at hl 0 rfl) ?_
              refine lv_aload_n hx hb dX6_take_104 rfl (lv_at hl 1 rfl) ?_
              refine va_get (D := (dC, dI)) (ci := 6) (v := .ref (ma 28)) (C := RX6) (T := TX6) (N := 44) hx hb hts kt_X6 hown hK hP 0 rfl rfl 28 (by decide) (kx_word hG kq_08_mgather_4 rfl) (fun _ h9 => h9) rfl dX6_take_105 ?_
              refine lv_iload hx hb dX6_take_108 (lv_at hl 0 rfl) ?_
              refine lv_iconst (v := iz 1) hx hb dX6_take_110 (by decide) ?_
              refine ki_isub hx hb dX6_take_111 ?_
              refine ki_zald (F := G 28) hx hb hK hP 23 22 rfl rfl (by omega) (by omega) (by decide) dX6_take_112 ?_
              have hbd_15 := hBG.2 28 (ap - 1)
              refine ki_zast (F := G 28) hx hb hK hP hD hS 23 22 rfl rfl (by omega) (by omega) (by decide) dX6_take_113 (fun H locs hP hD hS => ?_)
              have hP : va_P (dC, dI) kxCl (mW mo ma cs I (va_up (va_up (va_up (va_up G 25 (upI (G 25) ap (G 25 (ap - 1)))) 26 (upI (G 26) ap (G 26 (ap - 1)))) 27 (upI (G 27) ap (G 27 (ap - 1)))) 28 (upI (G 28) ap (vp_nar .boolean (iz (G 28 (ap - 1)))).toInt))) H := hP
              have hD : va_D A (mW mo ma cs I (va_up (va_up (va_up (va_up G 25 (upI (G 25) ap (G 25 (ap - 1)))) 26 (upI (G 26) ap (G 26 (ap - 1)))) 27 (upI (G 27) ap (G 27 (ap - 1)))) 28 (upI (G 28) ap (vp_nar .boolean (iz (G 28 (ap - 1)))).toInt))) := hD
              refine lv_iinc (v := iz (ap + (-1))) (lv' := [(5, .int (iz (ap + (-1)))), (0, .ref mo), (1, .int (iz kd)), (2, .int (iz fr)), (3, .int (iz to)), (4, .int (iz rg))]) hx hb dX6_take_114 hl (k := 0) rfl (iz_add ap (-1)) (by decide) rfl (fun ls hl => ?_)
              refine lv_goto (tgt := 6) hx hb dX6_take_117 (by decide) ?_
              exact ih6 (ap + (-1)) (va_up (va_up (va_up (va_up G 25 (upI (G 25) ap (G 25 (ap - 1)))) 26 (upI (G 26) ap (G 26 (ap - 1)))) 27 (upI (G 27) ap (G 27 (ap - 1)))) 28 (upI (G 28) ap (vp_nar .boolean (iz (G 28 (ap - 1)))).toInt)) ⟨(mB_f (mB_f (mB_f (mB_f hBG 25 ap (by omega) (by omega)) 26 ap (by omega) (by omega)) 27 ap (by omega) (by omega)) 28 ap (iz_lo _) (iz_hi _)), (mfr.upF (mfr.upF (mfr.upF (mfr.upF hfG (by decide) _) (by decide) _) (by decide) _) (by decide) _), by omega, mGt.put (F := G) (i := ap) (a := G 26 (ap - 1)) (b := G 27 (ap - 1)) (fun j a b _ => hb1 j a b) rfl rfl (hb1 (ap - 1) (by omega) (by omega)), fun h => mGt.put1 (F := G) (i := ap) (a := G 26 (ap - 1)) (b := G 27 (ap - 1)) (fun h9 => hb2 (by omega)) rfl rfl (hb1 (ap - 1) (by omega) (by omega)), (by show lo_sf (F 25) (upI (G 25) ap (G 25 (ap - 1))) (I 29) (ap + (-1)); rw [show ap + (-1) = ap - 1 by omega]; exact lo_sf_st s25 (by omega) rfl), (by show lo_sf (F 26) (upI (G 26) ap (G 26 (ap - 1))) (I 29) (ap + (-1)); rw [show ap + (-1) = ap - 1 by omega]; exact lo_sf_st s26 (by omega) rfl), (by show lo_sf (F 27) (upI (G 27) ap (G 27 (ap - 1))) (I 29) (ap + (-1)); rw [show ap + (-1) = ap - 1 by omega]; exact lo_sf_st s27 (by omega) rfl), (by show lo_sf (F 28) (upI (G 28) ap ((vp_nar .boolean (iz (G 28 (ap - 1)))).toInt)) (I 29) (ap + (-1)); rw [show ap + (-1) = ap - 1 by omega]; exact lo_sf_st s28 (by omega) (lo_bz (by omega))), fun i a b => by by_cases c9 : i = ap - 1; (rw [c9]; show 100000 * kd + fr < 100000 * F 25 (ap - 1) + F 26 (ap - 1); omega); exact hgt9 i (by omega) b⟩ (by omega) _ _ hP hD hS ls (lv_sub hl [0, 1, 2, 3, 4, 5] rfl)
  exact lp6 _ (I 29) F ⟨hB, mfr.rf, by omega, hgt, fun h => absurd h (by omega), lo_sf_0 _ _, lo_sf_0 _ _, lo_sf_0 _ _, lo_sf_0 _ _, fun i a b => absurd b (by omega)⟩ (Nat.lt_succ_self _) _ _ hP hD hS ls (lv_sub hl [0, 1, 2, 3, 4, 5] rfl)
set_option maxHeartbeats 4000000 in
set_option maxRecDepth 100000 in
theorem k_gather2 (l : Launch) (dC : Nat → ClassId) (dI : Nat → Nat → Nat) (mo : Nat) (ma : Nat → Nat) (cs : Nat → ClassId) (I : Nat → Int) (F : Nat → Int → Int) (p0 : Int) (sz : Nat) (hB : mB I F) (hc : 0 ≤ I 1 ∧ I 1 ≤ 64) (hln : ∀ e, 0 ≤ F 10 e ∧ 0 ≤ F 11 e ∧ F 11 e ≤ 99999 ∧ F 10 e + (if 0 < F 11 e then 1 else 0) ≤ 20) (hmf : mFt F) (hp01 : -2147483648 ≤ p0) (hp02 : p0 < 2147483648) (hRv : ∀ e, 0 ≤ e → e < I 1 → ∀ x, x ∈ lo_R F e → lo_v x) : mMv l yX6_gather (.code yX6_gather cX6_gather 4 none) 1 25 dC dI mo ma cs I F [.ref mo, .int (iz p0)] sz (fun (I' : Nat → Int) (F' : Nat → Int → Int) => mB I' F' ∧ mfr [29] [25, 26, 27, 28] I F I' F' ∧ (0 ≤ I' 29 ∧ I' 29 ≤ 1600) ∧ mGt (I' 29) F' ∧ lo_S (lo_row (F 17) (lo_R F) p0 (I 1).toNat) (lo_G (I' 29) F')) := by
  refine Met.ofW (cc := cX6_gather) (maxL := 4) (ret := none) (by decide) rfl ?_
  intro p e s m args below meth c s₁ B hml hv
  obtain ⟨rfl, hsz, hP, hK, hD0, hG, hZ⟩ := hv
  have hx := B.exec
  have hb := B.bytes
  have hr := B.returns
  have hts := kx_hts (a := ([.ref mo, .int (iz p0)] : List Value).toArray) hG
  have hown : s.vm.findClass RX6 = some m.cls := findClass_of_methodNamed B.named
  have hlocks := B.notSynchronized
  subst hsz
  have hD := hD0.self (sz := s.heap.size)
  generalize hAe : va_A (mW mo ma cs I F) s.heap.size = A at hD hZ ⊢
  have hA : ∀ q : Nat, s.heap.size ≤ q → A q := fun q h => by rw [← hAe]; exact Or.inr h
  have hS : va_S A s.heap s.heap [] := va_S.rf
  have hl := lv_entry ([.ref mo, .int (iz p0)]) (n := 4) (Nat.le_of_ble_eq_true rfl)
  rw [lg_entry_eq]
  generalize (lg_sl ([.ref mo, .int (iz p0)]) ++ List.replicate (4 - (lg_sl ([.ref mo, .int (iz p0)])).length) Slot.unset).toArray = ls at hl ⊢
  have hl : lv_has ls 4 [(0, .ref mo), (1, .int (iz p0))] := hl
  generalize hQe : MQ below (mQv dC dI mo ma cs A (fun (I' : Nat → Int) (F' : Nat → Int → Int) => mB I' F' ∧ mfr [29] [25, 26, 27, 28] I F I' F' ∧ (0 ≤ I' 29 ∧ I' 29 ≤ 1600) ∧ mGt (I' 29) F' ∧ lo_S (lo_row (F 17) (lo_R F) p0 (I 1).toNat) (lo_G (I' 29) F'))) ([.ref mo, .int (iz p0)] : List Value).toArray s 0 0 A = QQ
  refine lv_aload_n hx hb dX6_gather_0 rfl (lv_at hl 0 rfl) ?_
  refine lv_iconst (v := iz 0) hx hb dX6_gather_1 (by decide) ?_
  refine va_put (D := (dC, dI)) (ci := 6) (v := .int (iz 0)) (ty := .int) (C := RX6) (T := TX6) (N := 44) hx hb hts kt_X6 tyX6 tyX6_ok nmX6 hown hK hP hD hS 0 rfl rfl 29 (by decide) (kx_word hG kq_08_mgather_0 rfl) (fun _ h9 => h9) rfl (by decide +kernel) rfl rfl (Nat.le_of_ble_eq_true rfl) dX6_gather_2 (fun H locs hP hD hS => ?_)
  have hP : va_P (dC, dI) kxCl (mW mo ma cs (va_up I 29 0) F) H := hP
  have hD : va_D A (mW mo ma cs (va_up I 29 0) F) := hD
  refine lv_iconst (v := iz 0) hx hb dX6_gather_5 (by decide) ?_
  refine lv_istore_n (lv' := [(2, .int (iz 0)), (0, .ref mo), (1, .int (iz p0))]) hx hb dX6_gather_6 rfl hl (by decide) rfl (fun ls hl => ?_)
  have lp7 : ∀ (n : Nat) (ev : Int) (J : Nat → Int) (G : Nat → Int → Int), ((mB J G) ∧ (mfr [29] [25, 26, 27, 28] I F J G) ∧ (0 ≤ ev ∧ ev ≤ I 1) ∧ (0 ≤ J 29 ∧ J 29 ≤ 20 * ev) ∧ (mGt (J 29) G) ∧ (lo_S (lo_row (F 17) (lo_R F) p0 (ev).toNat) (lo_G (J 29) G))) → (I 1 - ev).toNat < n → ∀ (H : Heap) (locs : List Loc), va_P (dC, dI) kxCl (mW mo ma cs J G) H → va_D A (mW mo ma cs J G) → va_S A s.heap H locs → ∀ ls : Array Slot, lv_has ls 4 [(2, .int (iz ev)), (0, .ref mo), (1, .int (iz p0))] → W p l e (headSpec [.code yX6_gather cX6_gather 4 none] ({ frames := 1, cells := 0, slots := 0, locals := 25 })).room s m ([.ref mo, .int (iz p0)] : List Value).toArray below meth c H locs 0 0 QQ (F0 m 7 ls []) := by
    intro n
    induction n with
    | zero => intro ev J G hinv hm; exact absurd hm (Nat.not_lt_zero _)
    | succ n ih7 =>
      intro ev J G hinv hm H locs hP hD hS ls hl
      obtain ⟨hBJ, hfJ, hev, hgo, hgt, hS7⟩ := hinv
      have e1 := hfJ.1 1 (by decide)
      have hle := hln ev
      have p10 := congrFun (hfJ.2 10 (by decide)) ev
      have p11 := congrFun (hfJ.2 11 (by decide)) ev
      have p17 := congrFun (hfJ.2 17 (by decide)) ev
      refine lv_iload_n hx hb dX6_gather_7 rfl (lv_at hl 0 rfl) ?_
      refine lv_aload_n hx hb dX6_gather_8 rfl (lv_at hl 1 rfl) ?_
      refine va_get (D := (dC, dI)) (ci := 6) (v := .int (iz (J 1))) (C := RX6) (T := TX6) (N := 44) hx hb hts kt_X6 hown hK hP 0 rfl rfl 1 (by decide) (kx_word hG kq_04_msmall_1 rfl) (fun _ h9 => h9) rfl dX6_gather_9 ?_
      have hbd_1 := hBJ.1 1
      refine ki_icmp_ge (tgt := 112) hx hb dX6_gather_12 (by decide) (by omega) (by omega) (by omega) (by omega) (fun c_2 => ?_) (fun c_2 => ?_)
      · skip
        rw [← hQe]
        exact mk_ret hx hb hr hlocks hP hD hK hS dX6_gather_112 (⟨hBJ, hfJ, by omega, hgt, (by rw [show (I 1).toNat = ev.toNat by omega]; exact hS7)⟩)
      · skip
        refine lv_aload_n hx hb dX6_gather_15 rfl (lv_at hl 1 rfl) ?_
        refine va_get (D := (dC, dI)) (ci := 6) (v := .ref (ma 17)) (C := RX6) (T := TX6) (N := 44) hx hb hts kt_X6 hown hK hP 0 rfl rfl 17 (by decide) (kx_word hG kq_06_mway_15 rfl) (fun _ h9 => h9) rfl dX6_gather_16 ?_
        refine lv_iload_n hx hb dX6_gather_19 rfl (lv_at hl 0 rfl) ?_
        refine ki_iald (F := G 17) hx hb hK hP 13 12 rfl rfl (by omega) (by omega) (by decide) dX6_gather_20 ?_
        have hbd_3 := hBJ.2 17 ev
        refine lv_iload_n hx hb dX6_gather_21 rfl (lv_at hl 2 rfl) ?_
        refine ki_icmp_ne (tgt := 106) hx hb dX6_gather_22 (by decide) (by omega) (by omega) (by omega) (by omega) (fun c_4 => ?_) (fun c_4 => ?_)
        · skip
          refine lv_iinc (v := iz (ev + 1)) (lv' := [(2, .int (iz (ev + 1))), (0, .ref mo), (1, .int (iz p0))]) hx hb dX6_gather_106 hl (k := 0) rfl (iz_add ev 1) (by decide) rfl (fun ls hl => ?_)
          refine lv_goto (tgt := 7) hx hb dX6_gather_109 (by decide) ?_
          exact ih7 (ev + 1) J G ⟨hBJ, hfJ, by omega, by omega, hgt, (by rw [lo_row_n (by omega) (by omega)]; exact hS7)⟩ (by omega) _ _ hP hD hS ls (lv_sub hl [0, 1, 2] rfl)
        · skip
          refine lv_bipush (v := iz 20) hx hb dX6_gather_25 (by decide) ?_
          refine lv_iload_n hx hb dX6_gather_27 rfl (lv_at hl 0 rfl) ?_
          refine ki_imul hx hb dX6_gather_28 ?_
          refine lv_istore_n (lv' := [(3, .int (iz (20 * ev))), (2, .int (iz ev)), (0, .ref mo), (1, .int (iz p0))]) hx hb dX6_gather_29 rfl hl (by decide) rfl (fun ls hl => ?_)
          have lp30 : ∀ (n : Nat) (k : Int) (J1 : Nat → Int) (G1 : Nat → Int → Int), ((mB J1 G1) ∧ (mfr [29] [25, 26, 27, 28] I F J1 G1) ∧ (20 * ev ≤ k ∧ k ≤ 20 * ev + F 10 ev) ∧ (0 ≤ J1 29 ∧ J1 29 ≤ k) ∧ (mGt (J1 29) G1) ∧ (lo_S (lo_row (F 17) (lo_R F) p0 (ev).toNat ++ lo_ls (lo_Rf F ev) (lo_Rt F ev) (lo_Rr F ev) (k - 20 * ev).toNat 0) (lo_G (J1 29) G1))) → (20 * ev + F 10 ev - k).toNat < n → ∀ (H : Heap) (locs : List Loc), va_P (dC, dI) kxCl (mW mo ma cs J1 G1) H → va_D A (mW mo ma cs J1 G1) → va_S A s.heap H locs → ∀ ls : Array Slot, lv_has ls 4 [(3, .int (iz k)), (2, .int (iz ev)), (0, .ref mo), (1, .int (iz p0))] → W p l e (headSpec [.code yX6_gather cX6_gather 4 none] ({ frames := 1, cells := 0, slots := 0, locals := 25 })).room s m ([.ref mo, .int (iz p0)] : List Value).toArray below meth c H locs 0 0 QQ (F0 m 30 ls []) := by
            intro n
            induction n with
            | zero => intro k J1 G1 hinv hm; exact absurd hm (Nat.not_lt_zero _)
            | succ n ih30 =>
              intro k J1 G1 hinv hm H locs hP hD hS ls hl
              obtain ⟨hB1, hf1, hk, hg1, hgt1, hS3⟩ := hinv
              have q10 := congrFun (hf1.2 10 (by decide)) ev
              have q11 := congrFun (hf1.2 11 (by decide)) ev
              have q7 := congrFun (hf1.2 7 (by decide)) k
              have q8 := congrFun (hf1.2 8 (by decide)) k
              have hmk := hmf k
              have q6 := congrFun (hf1.2 6 (by decide)) k
              have q9 := congrFun (hf1.2 9 (by decide)) k
              have hal := lo_R_all (p0 := p0) hRv (show 0 ≤ ev by omega) (show ev < I 1 by omega) (show k - 20 * ev ≤ F 10 ev by omega)
              refine lv_iload_n hx hb dX6_gather_30 rfl (lv_at hl 0 rfl) ?_
              refine lv_bipush (v := iz 20) hx hb dX6_gather_31 (by decide) ?_
              refine lv_iload_n hx hb dX6_gather_33 rfl (lv_at hl 1 rfl) ?_
              refine ki_imul hx hb dX6_gather_34 ?_
              refine lv_aload_n hx hb dX6_gather_35 rfl (lv_at hl 2 rfl) ?_
              refine va_get (D := (dC, dI)) (ci := 6) (v := .ref (ma 10)) (C := RX6) (T := TX6) (N := 44) hx hb hts kt_X6 hown hK hP 0 rfl rfl 10 (by decide) (kx_word hG kq_04_msmall_22 rfl) (fun _ h9 => h9) rfl dX6_gather_36 ?_
              refine lv_iload_n hx hb dX6_gather_39 rfl (lv_at hl 1 rfl) ?_
              refine ki_iald (F := G1 10) hx hb hK hP 9 8 rfl rfl (by omega) (by omega) (by decide) dX6_gather_40 ?_
              have hbd_5 := hB1.2 10 ev
              refine ki_iadd hx hb dX6_gather_41 ?_
              refine ki_icmp_ge (tgt := 79) hx hb dX6_gather_42 (by decide) (by omega) (by omega) (by omega) (by omega) (fun c_6 => ?_) (fun c_6 => ?_)
              · skip
                refine lv_aload_n hx hb dX6_gather_79 rfl (lv_at hl 2 rfl) ?_
                refine va_get (D := (dC, dI)) (ci := 6) (v := .ref (ma 11)) (C := RX6) (T := TX6) (N := 44) hx hb hts kt_X6 hown hK hP 0 rfl rfl 11 (by decide) (kx_word hG kq_04_msmall_21 rfl) (fun _ h9 => h9) rfl dX6_gather_80 ?_
                refine lv_iload_n hx hb dX6_gather_83 rfl (lv_at hl 1 rfl) ?_
                refine ki_iald (F := G1 11) hx hb hK hP 10 9 rfl rfl (by omega) (by omega) (by decide) dX6_gather_84 ?_
                have hbd_7 := hB1.2 11 ev
                refine ki_if_le (tgt := 106) hx hb dX6_gather_85 (by decide) (by omega) (by omega) (fun c_8 => ?_) (fun c_8 => ?_)
                · skip
                  refine lv_iinc (v := iz (ev + 1)) (lv' := [(2, .int (iz (ev + 1))), (3, .int (iz k)), (0, .ref mo), (1, .int (iz p0))]) hx hb dX6_gather_106 hl (k := 1) rfl (iz_add ev 1) (by decide) rfl (fun ls hl => ?_)
                  refine lv_goto (tgt := 7) hx hb dX6_gather_109 (by decide) ?_
                  exact ih7 (ev + 1) J1 G1 ⟨hB1, hf1, by omega, by omega, hgt1, (by rw [lo_row_s (by omega) (by omega)]; unfold lo_R; rw [show lo_Ro F ev = [] from if_neg (by omega), List.append_nil]; rw [show k - 20 * ev = F 10 ev by omega] at hS3; exact hS3)⟩ (by omega) _ _ hP hD hS ls (lv_sub hl [0, 2, 3] rfl)
                · skip
                  refine lv_aload_n hx hb dX6_gather_88 rfl (lv_at hl 2 rfl) ?_
                  refine lv_iconst (v := iz 1) hx hb dX6_gather_89 (by decide) ?_
                  refine lv_aload_n hx hb dX6_gather_90 rfl (lv_at hl 2 rfl) ?_
                  refine va_get (D := (dC, dI)) (ci := 6) (v := .ref (ma 11)) (C := RX6) (T := TX6) (N := 44) hx hb hts kt_X6 hown hK hP 0 rfl rfl 11 (by decide) (kx_word hG kq_04_msmall_21 rfl) (fun _ h9 => h9) rfl dX6_gather_91 ?_
                  refine lv_iload_n hx hb dX6_gather_94 rfl (lv_at hl 1 rfl) ?_
                  refine ki_iald (F := G1 11) hx hb hK hP 10 9 rfl rfl (by omega) (by omega) (by decide) dX6_gather_95 ?_
                  refine lv_aload_n hx hb dX6_gather_96 rfl (lv_at hl 2 rfl) ?_
                  refine va_get (D := (dC, dI)) (ci := 6) (v := .ref (ma 11)) (C := RX6) (T := TX6) (N := 44) hx hb hts kt_X6 hown hK hP 0 rfl rfl 11 (by decide) (kx_word hG kq_04_msmall_21 rfl) (fun _ h9 => h9) rfl dX6_gather_97 ?_
                  refine lv_iload_n hx hb dX6_gather_100 rfl (lv_at hl 1 rfl) ?_
                  refine ki_iald (F := G1 11) hx hb hK hP 10 9 rfl rfl (by omega) (by omega) (by decide) dX6_gather_101 ?_
                  refine lv_iconst (v := iz 0) hx hb dX6_gather_102 (by decide) ?_
                  refine mk_callv (As := [.int (iz 1), .int (iz (G1 11 ev)), .int (iz (G1 11 ev)), .int (iz 0)]) (rest := []) ⟨hx, hb, hml, hown, hts⟩ (k_take2 l dC dI mo ma cs J1 G1 1 (G1 11 ev) (G1 11 ev) 0 H.size hB1 (by split at hle <;> omega) hgt1 (by omega) (by omega) (by omega) (by omega) (lo_G01 hS3 hal)) (cwV 4 hts (kx_gV kq_08_mgather_5 kq_08_mgather_6 kq_08_mgather_7 kq_04_msmall_6 kq_08_mgather_8 rfl) rfl rfl rfl (by decide +kernel) ⟨Nat.le_of_ble_eq_true rfl, Nat.le_of_ble_eq_true rfl⟩) hP hD hK hG hZ hS hA rfl hl.1 rfl (Nat.le_of_ble_eq_true rfl) dX6_gather_103 ⟨Nat.le_of_ble_eq_true rfl, Nat.le_of_ble_eq_true rfl⟩ (fun I_11 F_12 H locs hq_10 hP hD hS => ?_)
                  try dsimp only at hq_10
                  obtain ⟨rfl, hB13, hf13, hg13, hX13⟩ := hq_10
                  have hSn := hX13 _ hS3
                  refine lv_iinc (v := iz (ev + 1)) (lv' := [(2, .int (iz (ev + 1))), (3, .int (iz k)), (0, .ref mo), (1, .int (iz p0))]) hx hb dX6_gather_106 hl (k := 1) rfl (iz_add ev 1) (by decide) rfl (fun ls hl => ?_)
                  refine lv_goto (tgt := 7) hx hb dX6_gather_109 (by decide) ?_
                  exact ih7 (ev + 1) (va_up J1 29 ((J1 29) + 1)) F_12 ⟨hB13, (mfr.upI (hf1.tr (hf13.mono (by decide) (by decide))) (k := 29) (by decide) _), by omega, by rw [show (va_up J1 29 ((J1 29) + 1)) 29 = J1 29 + 1 from va_up_self _ _ _]; omega, by rw [show (va_up J1 29 ((J1 29) + 1)) 29 = J1 29 + 1 from va_up_self _ _ _]; exact hg13, (by rw [show (va_up J1 29 ((J1 29) + 1)) 29 = J1 29 + 1 from va_up_self _ _ _, lo_row_s (by omega) (by omega)]; unfold lo_R; rw [show lo_Ro F ev = [(100000 * 1 + F 11 ev, 100000 * 1 + F 11 ev, 0)] from if_pos (by omega), ← List.append_assoc]; rw [show k - 20 * ev = F 10 ev by omega, q11] at hSn; exact hSn)⟩ (by omega) _ _ hP hD hS ls (lv_sub hl [0, 2, 3] rfl)
              · skip
                have hi9 : 20 * ev + (k - 20 * ev) = k := by omega
                have hxk : (lo_Rf F ev (k - 20 * ev), lo_Rt F ev (k - 20 * ev), lo_Rr F ev (k - 20 * ev)) = (100000 * G1 6 k + G1 7 k, 100000 * G1 6 k + G1 8 k, G1 9 k) := by unfold lo_Rf lo_Rt lo_Rr; rw [hi9, q6, q7, q8, q9]
                have hvk := lo_vx (n := F 10 ev) (fun x hx => hRv ev (by omega) (by omega) x (List.mem_append.mpr (Or.inl hx))) (show 0 ≤ k - 20 * ev by omega) (show k - 20 * ev < F 10 ev by omega)
                rw [hxk] at hvk
                have h01 : G1 9 k = 0 ∨ G1 9 k = 1 := lo_v01 hvk
                refine lv_aload_n hx hb dX6_gather_45 rfl (lv_at hl 2 rfl) ?_
                refine lv_aload_n hx hb dX6_gather_46 rfl (lv_at hl 2 rfl) ?_
                refine va_get (D := (dC, dI)) (ci := 6) (v := .ref (ma 6)) (C := RX6) (T := TX6) (N := 44) hx hb hts kt_X6 hown hK hP 0 rfl rfl 6 (by decide) (kx_word hG kq_04_msmall_23 rfl) (fun _ h9 => h9) rfl dX6_gather_47 ?_
                refine lv_iload_n hx hb dX6_gather_50 rfl (lv_at hl 0 rfl) ?_
                refine ki_iald (F := G1 6) hx hb hK hP 5 4 rfl rfl (by omega) (by omega) (by decide) dX6_gather_51 ?_
                have hbd_14 := hB1.2 6 k
                refine lv_aload_n hx hb dX6_gather_52 rfl (lv_at hl 2 rfl) ?_
                refine va_get (D := (dC, dI)) (ci := 6) (v := .ref (ma 7)) (C := RX6) (T := TX6) (N := 44) hx hb hts kt_X6 hown hK hP 0 rfl rfl 7 (by decide) (kx_word hG kq_04_msmall_24 rfl) (fun _ h9 => h9) rfl dX6_gather_53 ?_
                refine lv_iload_n hx hb dX6_gather_56 rfl (lv_at hl 0 rfl) ?_
                refine ki_iald (F := G1 7) hx hb hK hP 6 5 rfl rfl (by omega) (by omega) (by decide) dX6_gather_57 ?_
                have hbd_15 := hB1.2 7 k
                refine lv_aload_n hx hb dX6_gather_58 rfl (lv_at hl 2 rfl) ?_
                refine va_get (D := (dC, dI)) (ci := 6) (v := .ref (ma 8)) (C := RX6) (T := TX6) (N := 44) hx hb hts kt_X6 hown hK hP 0 rfl rfl 8 (by decide) (kx_word hG kq_04_msmall_25 rfl) (fun _ h9 => h9) rfl dX6_gather_59 ?_
                refine lv_iload_n hx hb dX6_gather_62 rfl (lv_at hl 0 rfl) ?_
                refine ki_iald (F := G1 8) hx hb hK hP 7 6 rfl rfl (by omega) (by omega) (by decide) dX6_gather_63 ?_
                have hbd_16 := hB1.2 8 k
                refine lv_aload_n hx hb dX6_gather_64 rfl (lv_at hl 2 rfl) ?_
                refine va_get (D := (dC, dI)) (ci := 6) (v := .ref (ma 9)) (C := RX6) (T := TX6) (N := 44) hx hb hts kt_X6 hown hK hP 0 rfl rfl 9 (by decide) (kx_word hG kq_04_msmall_26 rfl) (fun _ h9 => h9) rfl dX6_gather_65 ?_
                refine lv_iload_n hx hb dX6_gather_68 rfl (lv_at hl 0 rfl) ?_
                refine ki_zald (F := G1 9) hx hb hK hP 8 7 rfl rfl (by omega) (by omega) (by decide) dX6_gather_69 ?_
                have hbd_17 := hB1.2 9 k
                refine mk_callv (As := [.int (iz (G1 6 k)), .int (iz (G1 7 k)), .int (iz (G1 8 k)), .int (iz (G1 9 k))]) (rest := []) ⟨hx, hb, hml, hown, hts⟩ (k_take2 l dC dI mo ma cs J1 G1 (G1 6 k) (G1 7 k) (G1 8 k) (G1 9 k) H.size hB1 (by split at hle <;> omega) hgt1 (by omega) (by omega) (by omega) (by omega) (lo_G01 hS3 hal)) (cwV 4 hts (kx_gV kq_08_mgather_5 kq_08_mgather_6 kq_08_mgather_7 kq_04_msmall_6 kq_08_mgather_8 rfl) rfl rfl rfl (by decide +kernel) ⟨Nat.le_of_ble_eq_true rfl, Nat.le_of_ble_eq_true rfl⟩) hP hD hK hG hZ hS hA rfl hl.1 rfl (Nat.le_of_ble_eq_true rfl) dX6_gather_70 ⟨Nat.le_of_ble_eq_true rfl, Nat.le_of_ble_eq_true rfl⟩ (fun I_20 F_21 H locs hq_19 hP hD hS => ?_)
                try dsimp only at hq_19
                obtain ⟨rfl, hB22, hf22, hg22, hX22⟩ := hq_19
                have hSn := hX22 _ hS3
                refine lv_iinc (v := iz (k + 1)) (lv' := [(3, .int (iz (k + 1))), (2, .int (iz ev)), (0, .ref mo), (1, .int (iz p0))]) hx hb dX6_gather_73 hl (k := 0) rfl (iz_add k 1) (by decide) rfl (fun ls hl => ?_)
                refine lv_goto (tgt := 30) hx hb dX6_gather_76 (by decide) ?_
                exact ih30 (k + 1) (va_up J1 29 ((J1 29) + 1)) F_21 ⟨hB22, (mfr.upI (hf1.tr (hf22.mono (by decide) (by decide))) (k := 29) (by decide) _), by omega, by rw [show (va_up J1 29 ((J1 29) + 1)) 29 = J1 29 + 1 from va_up_self _ _ _]; omega, by rw [show (va_up J1 29 ((J1 29) + 1)) 29 = J1 29 + 1 from va_up_self _ _ _]; exact hg22, (by rw [show (va_up J1 29 ((J1 29) + 1)) 29 = J1 29 + 1 from va_up_self _ _ _, show k + 1 - 20 * ev = (k - 20 * ev) + 1 by omega, lo_ls_s (show 0 ≤ k - 20 * ev by omega), ← List.append_assoc]; rw [hxk]; exact hSn)⟩ (by omega) _ _ hP hD hS ls (lv_sub hl [0, 1, 2, 3] rfl)
          exact lp30 _ (20 * ev) J G ⟨hBJ, hfJ, by omega, by omega, hgt, (by rw [show 20 * ev - 20 * ev = 0 by omega]; show lo_S (_ ++ []) _; rw [List.append_nil]; exact hS7)⟩ (Nat.lt_succ_self _) _ _ hP hD hS ls (lv_sub hl [0, 1, 2, 3] rfl)
  exact lp7 _ 0 (va_up I 29 0) F ⟨(mB_i hB 29 (by omega) (by omega)), (mfr.upI mfr.rf (by decide) _), by omega, by rw [show (va_up I 29 0) 29 = 0 from rfl]; omega, fun j a b => absurd (show j < 0 from b) (by omega), lo_S_nil⟩ (Nat.lt_succ_self _) _ _ hP hD hS ls (lv_sub hl [0, 1, 2] rfl)
set_option maxHeartbeats 4000000 in
set_option maxRecDepth 100000 in
theorem k_locate2 (l : Launch) (dC : Nat → ClassId) (dI : Nat → Nat → Nat) (mo : Nat) (ma : Nat → Nat) (cs : Nat → ClassId) (I : Nat → Int) (F : Nat → Int → Int) (ask : Int) (sz : Nat) (hB : mB I F) (hg : 0 ≤ I 29 ∧ I 29 ≤ 1700) (hgt : mGt (I 29) F) (hfd : mFd I) (hask1 : -2147483648 ≤ ask) (hask2 : ask < 2147483648) (hGs : lo_so (lo_G (I 29) F)) (hGv : ∀ x, x ∈ (lo_G (I 29) F) → lo_v x) : mMi l yX6_locate (.code yX6_locate cX6_locate 10 (some .int)) 0 0 dC dI mo ma cs I F [.ref mo, .int (iz ask)] sz (fun (r : Int) (I' : Nat → Int) (F' : Nat → Int → Int) => F = F' ∧ mB I' F ∧ mfr [31, 32, 33] [] I F I' F ∧ mFd I' ∧ (0 ≤ r ∧ r ≤ 3400) ∧ (0 ≤ ask → ask < r → (0 ≤ I' 32 ∧ I' 32 ≤ 99999) ∧ (0 ≤ I' 33 ∧ I' 33 ≤ 99999)) ∧ r = (((lo_L (lo_J (lo_G (I 29) F))).length : Nat) : Int) ∧ (0 ≤ ask → ask < r → (lo_L (lo_J (lo_G (I 29) F)))[ask.toNat]? = some (100000 * I' 31 + I' 32, 100000 * I' 31 + I' 33))) := by
  refine Met.ofW (cc := cX6_locate) (maxL := 10) (ret := (some .int)) (by decide) rfl ?_
  intro p e s m args below meth c s₁ B hml hv
  obtain ⟨rfl, hsz, hP, hK, hD0, hG, hZ⟩ := hv
  have hx := B.exec
  have hb := B.bytes
  have hr := B.returns
  have hts := kx_hts (a := ([.ref mo, .int (iz ask)] : List Value).toArray) hG
  have hown : s.vm.findClass RX6 = some m.cls := findClass_of_methodNamed B.named
  have hlocks := B.notSynchronized
  subst hsz
  have hD := hD0.self (sz := s.heap.size)
  generalize hAe : va_A (mW mo ma cs I F) s.heap.size = A at hD hZ ⊢
  have hA : ∀ q : Nat, s.heap.size ≤ q → A q := fun q h => by rw [← hAe]; exact Or.inr h
  have hS : va_S A s.heap s.heap [] := va_S.rf
  have hl := lv_entry ([.ref mo, .int (iz ask)]) (n := 10) (Nat.le_of_ble_eq_true rfl)
  rw [lg_entry_eq]
  generalize (lg_sl ([.ref mo, .int (iz ask)]) ++ List.replicate (10 - (lg_sl ([.ref mo, .int (iz ask)])).length) Slot.unset).toArray = ls at hl ⊢
  have hl : lv_has ls 10 [(0, .ref mo), (1, .int (iz ask))] := hl
  generalize hQe : MQ below (mQi dC dI mo ma cs A (fun (r : Int) (I' : Nat → Int) (F' : Nat → Int → Int) => F = F' ∧ mB I' F ∧ mfr [31, 32, 33] [] I F I' F ∧ mFd I' ∧ (0 ≤ r ∧ r ≤ 3400) ∧ (0 ≤ ask → ask < r → (0 ≤ I' 32 ∧ I' 32 ≤ 99999) ∧ (0 ≤ I' 33 ∧ I' 33 ≤ 99999)) ∧ r = (((lo_L (lo_J (lo_G (I 29) F))).length : Nat) : Int) ∧ (0 ≤ ask → ask < r → (lo_L (lo_J (lo_G (I 29) F)))[ask.toNat]? = some (100000 * I' 31 + I' 32, 100000 * I' 31 + I' 33)))) ([.ref mo, .int (iz ask)] : List Value).toArray s 0 0 A = QQ
  refine lv_iconst (v := iz 0) hx hb dX6_locate_0 (by decide) ?_
  refine lv_istore_n (lv' := [(2, .int (iz 0)), (0, .ref mo), (1, .int (iz ask))]) hx hb dX6_locate_1 rfl hl (by decide) rfl (fun ls hl => ?_)
  refine lv_iconst (v := iz 0) hx hb dX6_locate_2 (by decide) ?_
  refine lv_istore_n (lv' := [(3, .int (iz 0)), (2, .int (iz 0)), (0, .ref mo), (1, .int (iz ask))]) hx hb dX6_locate_3 rfl hl (by decide) rfl (fun ls hl => ?_)
  have lp4 : ∀ (n : Nat) (nz k : Int) (J : Nat → Int), ((mB J F) ∧ (mfr [31, 32, 33] [] I F J F) ∧ (mFd J) ∧ (0 ≤ k ∧ k ≤ I 29) ∧ (0 ≤ nz ∧ nz ≤ 2 * k) ∧ (0 ≤ ask → ask < nz → (0 ≤ J 32 ∧ J 32 ≤ 99999) ∧ (0 ≤ J 33 ∧ J 33 ≤ 99999)) ∧ (lo_O (lo_pp (F 25) (F 26)) (lo_pp (F 25) (F 27)) (F 28) (I 29) k nz ask (100000 * J 31 + J 32, 100000 * J 31 + J 33))) → (I 29 - k).toNat < n → ∀ (H : Heap) (locs : List Loc), va_P (dC, dI) kxCl (mW mo ma cs J F) H → va_D A (mW mo ma cs J F) → va_S A s.heap H locs → ∀ ls : Array Slot, lv_has ls 10 [(3, .int (iz k)), (2, .int (iz nz)), (0, .ref mo), (1, .int (iz ask))] → W p l e (headSpec [.code yX6_locate cX6_locate 10 (some .int)] ({ frames := 0, cells := 0, slots := 0, locals := 0 })).room s m ([.ref mo, .int (iz ask)] : List Value).toArray below meth c H locs 0 0 QQ (F0 m 4 ls []) := by
    intro n
    induction n with
    | zero => intro nz k J hinv hm; exact absurd hm (Nat.not_lt_zero _)
    | succ n ih4 =>
      intro nz k J hinv hm H locs hP hD hS ls hl
      obtain ⟨hBJ, hfJ, hfdJ, hk, hnz, hfq, hOo⟩ := hinv
      have e29 := hfJ.1 29 (by decide)
      have hgt8 := hgt
      refine lv_iload_n hx hb dX6_locate_4 rfl (lv_at hl 0 rfl) ?_
      refine lv_aload_n hx hb dX6_locate_5 rfl (lv_at hl 2 rfl) ?_
      refine va_get (D := (dC, dI)) (ci := 6) (v := .int (iz (J 29))) (C := RX6) (T := TX6) (N := 44) hx hb hts kt_X6 hown hK hP 0 rfl rfl 29 (by decide) (kx_word hG kq_08_mgather_0 rfl) (fun _ h9 => h9) rfl dX6_locate_6 ?_
      have hbd_1 := hBJ.1 29
      refine ki_icmp_ge (tgt := 226) hx hb dX6_locate_9 (by decide) (by omega) (by omega) (by omega) (by omega) (fun c_2 => ?_) (fun c_2 => ?_)
      · skip
        refine lv_iload_n hx hb dX6_locate_226 rfl (lv_at hl 1 rfl) ?_
        rw [← hQe]
        exact mk_ireti hx hb hr hlocks hP hD hK hS dX6_locate_227 (⟨rfl, hBJ, hfJ, hfdJ, by omega, hfq, (lo_O_end hOo (show k = I 29 by omega)).1, (lo_O_end hOo (show k = I 29 by omega)).2⟩)
      · skip
        refine lv_aload_n hx hb dX6_locate_12 rfl (lv_at hl 2 rfl) ?_
        refine va_get (D := (dC, dI)) (ci := 6) (v := .ref (ma 25)) (C := RX6) (T := TX6) (N := 44) hx hb hts kt_X6 hown hK hP 0 rfl rfl 25 (by decide) (kx_word hG kq_08_mgather_1 rfl) (fun _ h9 => h9) rfl dX6_locate_13 ?_
        refine lv_iload_n hx hb dX6_locate_16 rfl (lv_at hl 0 rfl) ?_
        refine ki_iald (F := F 25) hx hb hK hP 20 19 rfl rfl (by omega) (by omega) (by decide) dX6_locate_17 ?_
        have hbd_3 := hBJ.2 25 k
        refine lv_istore (lv' := [(4, .int (iz (F 25 k))), (3, .int (iz k)), (2, .int (iz nz)), (0, .ref mo), (1, .int (iz ask))]) hx hb dX6_locate_18 hl (by decide) rfl (fun ls hl => ?_)
        refine lv_aload_n hx hb dX6_locate_20 rfl (lv_at hl 3 rfl) ?_
        refine va_get (D := (dC, dI)) (ci := 6) (v := .ref (ma 26)) (C := RX6) (T := TX6) (N := 44) hx hb hts kt_X6 hown hK hP 0 rfl rfl 26 (by decide) (kx_word hG kq_08_mgather_2 rfl) (fun _ h9 => h9) rfl dX6_locate_21 ?_
        refine lv_iload_n hx hb dX6_locate_24 rfl (lv_at hl 1 rfl) ?_
        refine ki_iald (F := F 26) hx hb hK hP 21 20 rfl rfl (by omega) (by omega) (by decide) dX6_locate_25 ?_
        have hbd_4 := hBJ.2 26 k
        refine lv_istore (lv' := [(5, .int (iz (F 26 k))), (4, .int (iz (F 25 k))), (3, .int (iz k)), (2, .int (iz nz)), (0, .ref mo), (1, .int (iz ask))]) hx hb dX6_locate_26 hl (by decide) rfl (fun ls hl => ?_)
        refine lv_aload_n hx hb dX6_locate_28 rfl (lv_at hl 4 rfl) ?_
        refine va_get (D := (dC, dI)) (ci := 6) (v := .ref (ma 27)) (C := RX6) (T := TX6) (N := 44) hx hb hts kt_X6 hown hK hP 0 rfl rfl 27 (by decide) (kx_word hG kq_08_mgather_3 rfl) (fun _ h9 => h9) rfl dX6_locate_29 ?_
        refine lv_iload_n hx hb dX6_locate_32 rfl (lv_at hl 2 rfl) ?_
        refine ki_iald (F := F 27) hx hb hK hP 22 21 rfl rfl (by omega) (by omega) (by decide) dX6_locate_33 ?_
        have hbd_5 := hBJ.2 27 k
        refine lv_istore (lv' := [(6, .int (iz (F 27 k))), (5, .int (iz (F 26 k))), (4, .int (iz (F 25 k))), (3, .int (iz k)), (2, .int (iz nz)), (0, .ref mo), (1, .int (iz ask))]) hx hb dX6_locate_34 hl (by decide) rfl (fun ls hl => ?_)
        refine lv_iconst (v := iz 0) hx hb dX6_locate_36 (by decide) ?_
        refine lv_istore (lv' := [(7, .int (iz 0)), (6, .int (iz (F 27 k))), (5, .int (iz (F 26 k))), (4, .int (iz (F 25 k))), (3, .int (iz k)), (2, .int (iz nz)), (0, .ref mo), (1, .int (iz ask))]) hx hb dX6_locate_37 hl (by decide) rfl (fun ls hl => ?_)
        have hgk := hgt k (by omega) (by omega)
        have lp39 : ∀ (n : Nat) (kk to rg : Int), ((k ≤ kk ∧ kk ≤ I 29) ∧ (F 27 k ≤ to ∧ to ≤ 99999) ∧ (rg = 0 ∨ rg = 1) ∧ (kk = k → F 25 kk = F 25 k ∧ F 26 kk = F 26 k) ∧ (lo_N (lo_pp (F 25) (F 26)) (lo_pp (F 25) (F 27)) (F 28) (I 29) k kk (lo_pp (F 25) (F 26) k) (100000 * F 25 k + to) rg)) → (I 29 - kk).toNat < n → ∀ (H : Heap) (locs : List Loc), va_P (dC, dI) kxCl (mW mo ma cs J F) H → va_D A (mW mo ma cs J F) → va_S A s.heap H locs → ∀ ls : Array Slot, lv_has ls 10 [(7, .int (iz rg)), (6, .int (iz to)), (5, .int (iz (F 26 k))), (4, .int (iz (F 25 k))), (3, .int (iz kk)), (2, .int (iz nz)), (0, .ref mo), (1, .int (iz ask))] → W p l e (headSpec [.code yX6_locate cX6_locate 10 (some .int)] ({ frames := 0, cells := 0, slots := 0, locals := 0 })).room s m ([.ref mo, .int (iz ask)] : List Value).toArray below meth c H locs 0 0 QQ (F0 m 39 ls []) := by
          intro n
          induction n with
          | zero => intro kk to rg hinv hm; exact absurd hm (Nat.not_lt_zero _)
          | succ n ih39 =>
            intro kk to rg hinv hm H locs hP hD hS ls hl
            obtain ⟨hkk, hto, hrg, heq, hNn⟩ := hinv
            refine lv_iload_n hx hb dX6_locate_39 rfl (lv_at hl 4 rfl) ?_
            refine lv_aload_n hx hb dX6_locate_40 rfl (lv_at hl 6 rfl) ?_
            refine va_get (D := (dC, dI)) (ci := 6) (v := .int (iz (J 29))) (C := RX6) (T := TX6) (N := 44) hx hb hts kt_X6 hown hK hP 0 rfl rfl 29 (by decide) (kx_word hG kq_08_mgather_0 rfl) (fun _ h9 => h9) rfl dX6_locate_41 ?_
            refine ki_icmp_ge (tgt := 122) hx hb dX6_locate_44 (by decide) (by omega) (by omega) (by omega) (by omega) (fun c_6 => ?_) (fun c_6 => ?_)
            · skip
              have hvk := lo_vx hGv (show 0 ≤ k by omega) (show k < I 29 by omega)
              have hin2 := lo_N_out hNn (show 0 ≤ k by omega) (show k < I 29 by omega) (show kk ≤ I 29 by omega) (by first | exact Or.inl (show kk = I 29 by omega) | exact Or.inr (show ¬ 100000 * F 25 kk + F 26 kk ≤ 100000 * F 25 k + to + 1 by omega)) (lo_v01 hvk)
              have hft9 : F 26 k ≤ to := by omega
              refine lv_iload hx hb dX6_locate_122 (lv_at hl 0 rfl) ?_
              refine ki_if_ne (tgt := 136) hx hb dX6_locate_124 (by decide) (by omega) (by omega) (fun c_7 => ?_) (fun c_7 => ?_)
              · skip
                refine lv_iconst (v := iz 1) hx hb dX6_locate_136 (by decide) ?_
                refine lv_goto (tgt := 141) hx hb dX6_locate_137 (by decide) ?_
                refine lv_istore (lv' := [(8, .int (iz 1)), (7, .int (iz rg)), (6, .int (iz to)), (5, .int (iz (F 26 k))), (4, .int (iz (F 25 k))), (3, .int (iz kk)), (2, .int (iz nz)), (0, .ref mo), (1, .int (iz ask))]) hx hb dX6_locate_141 hl (by decide) rfl (fun ls hl => ?_)
                refine lv_iload hx hb dX6_locate_143 (lv_at hl 0 rfl) ?_
                refine ki_if_eq (tgt := 152) hx hb dX6_locate_145 (by decide) (by omega) (by omega) (fun c_8 => ?_) (fun c_8 => ?_)
                · omega
                · skip
                  refine lv_iconst (v := iz 1) hx hb dX6_locate_148 (by decide) ?_
                  refine lv_goto (tgt := 159) hx hb dX6_locate_149 (by decide) ?_
                  refine lv_istore (lv' := [(9, .int (iz 1)), (8, .int (iz 1)), (7, .int (iz rg)), (6, .int (iz to)), (5, .int (iz (F 26 k))), (4, .int (iz (F 25 k))), (3, .int (iz kk)), (2, .int (iz nz)), (0, .ref mo), (1, .int (iz ask))]) hx hb dX6_locate_159 hl (by decide) rfl (fun ls hl => ?_)
                  have hw9 : lo_W (lo_pp (F 25) (F 26) k, 100000 * F 25 k + to, rg) = [(100000 * F 25 k + F 26 k, 100000 * F 25 k + to)] := lo_W_p (show rg = 1 ∨ 2 ≤ (100000 * F 25 k + to) - (100000 * F 25 k + F 26 k) by omega)
                  have hwn9 : 1 = (((lo_W (lo_pp (F 25) (F 26) k, 100000 * F 25 k + to, rg)).length : Nat) : Int) := by rw [hw9]; rfl
                  refine lv_iload_n hx hb dX6_locate_161 rfl (lv_at hl 9 rfl) ?_
                  refine lv_iload_n hx hb dX6_locate_162 rfl (lv_at hl 7 rfl) ?_
                  refine ki_icmp_lt (tgt := 218) hx hb dX6_locate_163 (by decide) (by omega) (by omega) (by omega) (by omega) (fun c_9 => ?_) (fun c_9 => ?_)
                  · skip
                    refine lv_iload_n hx hb dX6_locate_218 rfl (lv_at hl 7 rfl) ?_
                    refine lv_iload hx hb dX6_locate_219 (lv_at hl 0 rfl) ?_
                    refine ki_iadd hx hb dX6_locate_221 ?_
                    refine lv_istore_n (lv' := [(2, .int (iz (nz + 1))), (9, .int (iz 1)), (8, .int (iz 1)), (7, .int (iz rg)), (6, .int (iz to)), (5, .int (iz (F 26 k))), (4, .int (iz (F 25 k))), (3, .int (iz kk)), (0, .ref mo), (1, .int (iz ask))]) hx hb dX6_locate_222 rfl hl (by decide) rfl (fun ls hl => ?_)
                    refine lv_goto (tgt := 4) hx hb dX6_locate_223 (by decide) ?_
                    exact ih4 (nz + 1) kk J ⟨hBJ, hfJ, by simp [mFd, va_up] at hfdJ ⊢; omega, by omega, by omega, (fun a9 b9 => hfq a9 (by omega)), (by have q9 := lo_O_step hOo (hin2 (by omega)) (show 1 = (((lo_W (lo_pp (F 25) (F 26) k, 100000 * F 25 k + to, rg)).length : Nat) : Int) from hwn9) (fun _ _ => rfl) (fun h8 h9 => absurd h9 (by omega)); exact q9)⟩ (by omega) _ _ hP hD hS ls (lv_sub hl [7, 0, 8, 9] rfl)
                  · skip
                    refine lv_iload_n hx hb dX6_locate_166 rfl (lv_at hl 9 rfl) ?_
                    refine lv_iload_n hx hb dX6_locate_167 rfl (lv_at hl 7 rfl) ?_
                    refine lv_iload hx hb dX6_locate_168 (lv_at hl 0 rfl) ?_
                    refine ki_iadd hx hb dX6_locate_170 ?_
                    refine ki_icmp_ge (tgt := 218) hx hb dX6_locate_171 (by decide) (by omega) (by omega) (by omega) (by omega) (fun c_10 => ?_) (fun c_10 => ?_)
                    · skip
                      refine lv_iload_n hx hb dX6_locate_218 rfl (lv_at hl 7 rfl) ?_
                      refine lv_iload hx hb dX6_locate_219 (lv_at hl 0 rfl) ?_
                      refine ki_iadd hx hb dX6_locate_221 ?_
                      refine lv_istore_n (lv' := [(2, .int (iz (nz + 1))), (9, .int (iz 1)), (8, .int (iz 1)), (7, .int (iz rg)), (6, .int (iz to)), (5, .int (iz (F 26 k))), (4, .int (iz (F 25 k))), (3, .int (iz kk)), (0, .ref mo), (1, .int (iz ask))]) hx hb dX6_locate_222 rfl hl (by decide) rfl (fun ls hl => ?_)
                      refine lv_goto (tgt := 4) hx hb dX6_locate_223 (by decide) ?_
                      exact ih4 (nz + 1) kk J ⟨hBJ, hfJ, by simp [mFd, va_up] at hfdJ ⊢; omega, by omega, by omega, (fun a9 b9 => hfq a9 (by omega)), (by have q9 := lo_O_step hOo (hin2 (by omega)) (show 1 = (((lo_W (lo_pp (F 25) (F 26) k, 100000 * F 25 k + to, rg)).length : Nat) : Int) from hwn9) (fun _ _ => rfl) (fun h8 h9 => absurd h9 (by omega)); exact q9)⟩ (by omega) _ _ hP hD hS ls (lv_sub hl [7, 0, 8, 9] rfl)
                    · skip
                      refine lv_aload_n hx hb dX6_locate_174 rfl (lv_at hl 8 rfl) ?_
                      refine lv_iload hx hb dX6_locate_175 (lv_at hl 5 rfl) ?_
                      refine va_put (D := (dC, dI)) (ci := 6) (v := .int (iz (F 25 k))) (ty := .int) (C := RX6) (T := TX6) (N := 44) hx hb hts kt_X6 tyX6 tyX6_ok nmX6 hown hK hP hD hS 0 rfl rfl 31 (by decide) (kx_word hG kq_09_mput_0 rfl) (fun _ h9 => h9) rfl (by decide +kernel) rfl rfl (Nat.le_of_ble_eq_true rfl) dX6_locate_177 (fun H locs hP hD hS => ?_)
                      have hP : va_P (dC, dI) kxCl (mW mo ma cs (va_up J 31 (F 25 k)) F) H := hP
                      have hD : va_D A (mW mo ma cs (va_up J 31 (F 25 k)) F) := hD
                      refine lv_aload_n hx hb dX6_locate_180 rfl (lv_at hl 8 rfl) ?_
                      refine lv_iload hx hb dX6_locate_181 (lv_at hl 1 rfl) ?_
                      refine ki_if_eq (tgt := 191) hx hb dX6_locate_183 (by decide) (by omega) (by omega) (fun c_11 => ?_) (fun c_11 => ?_)
                      · omega
                      · skip
                        refine lv_iload hx hb dX6_locate_186 (lv_at hl 4 rfl) ?_
                        refine lv_goto (tgt := 197) hx hb dX6_locate_188 (by decide) ?_
                        refine va_put (D := (dC, dI)) (ci := 6) (v := .int (iz (F 26 k))) (ty := .int) (C := RX6) (T := TX6) (N := 44) hx hb hts kt_X6 tyX6 tyX6_ok nmX6 hown hK hP hD hS 0 rfl rfl 32 (by decide) (kx_word hG kq_09_mput_1 rfl) (fun _ h9 => h9) rfl (by decide +kernel) rfl rfl (Nat.le_of_ble_eq_true rfl) dX6_locate_197 (fun H locs hP hD hS => ?_)
                        have hP : va_P (dC, dI) kxCl (mW mo ma cs (va_up (va_up J 31 (F 25 k)) 32 (F 26 k)) F) H := hP
                        have hD : va_D A (mW mo ma cs (va_up (va_up J 31 (F 25 k)) 32 (F 26 k)) F) := hD
                        refine lv_aload_n hx hb dX6_locate_200 rfl (lv_at hl 8 rfl) ?_
                        refine lv_iload hx hb dX6_locate_201 (lv_at hl 1 rfl) ?_
                        refine ki_if_eq (tgt := 211) hx hb dX6_locate_203 (by decide) (by omega) (by omega) (fun c_12 => ?_) (fun c_12 => ?_)
                        · omega
                        · skip
                          refine lv_iload hx hb dX6_locate_206 (lv_at hl 3 rfl) ?_
                          refine lv_goto (tgt := 215) hx hb dX6_locate_208 (by decide) ?_
                          refine va_put (D := (dC, dI)) (ci := 6) (v := .int (iz to)) (ty := .int) (C := RX6) (T := TX6) (N := 44) hx hb hts kt_X6 tyX6 tyX6_ok nmX6 hown hK hP hD hS 0 rfl rfl 33 (by decide) (kx_word hG kq_09_mput_2 rfl) (fun _ h9 => h9) rfl (by decide +kernel) rfl rfl (Nat.le_of_ble_eq_true rfl) dX6_locate_215 (fun H locs hP hD hS => ?_)
                          have hP : va_P (dC, dI) kxCl (mW mo ma cs (va_up (va_up (va_up J 31 (F 25 k)) 32 (F 26 k)) 33 to) F) H := hP
                          have hD : va_D A (mW mo ma cs (va_up (va_up (va_up J 31 (F 25 k)) 32 (F 26 k)) 33 to) F) := hD
                          have hel : (lo_W (lo_pp (F 25) (F 26) k, 100000 * F 25 k + to, rg))[(ask - nz).toNat]? = some (100000 * F 25 k + (F 26 k), 100000 * F 25 k + (to)) := by rw [hw9, show (ask - nz).toNat = 0 by omega]; rfl
                          refine lv_iload_n hx hb dX6_locate_218 rfl (lv_at hl 7 rfl) ?_
                          refine lv_iload hx hb dX6_locate_219 (lv_at hl 0 rfl) ?_
                          refine ki_iadd hx hb dX6_locate_221 ?_
                          refine lv_istore_n (lv' := [(2, .int (iz (nz + 1))), (9, .int (iz 1)), (8, .int (iz 1)), (7, .int (iz rg)), (6, .int (iz to)), (5, .int (iz (F 26 k))), (4, .int (iz (F 25 k))), (3, .int (iz kk)), (0, .ref mo), (1, .int (iz ask))]) hx hb dX6_locate_222 rfl hl (by decide) rfl (fun ls hl => ?_)
                          refine lv_goto (tgt := 4) hx hb dX6_locate_223 (by decide) ?_
                          exact ih4 (nz + 1) kk (va_up (va_up (va_up J 31 (F 25 k)) 32 (F 26 k)) 33 to) ⟨(mB_i (mB_i (mB_i hBJ 31 (by omega) (by omega)) 32 (by omega) (by omega)) 33 (by omega) (by omega)), (mfr.upI (mfr.upI (mfr.upI hfJ (by decide) _) (by decide) _) (by decide) _), by simp [mFd, va_up] at hfdJ ⊢; omega, by omega, by omega, (fun a9 b9 => (show (0 ≤ F 26 k ∧ F 26 k ≤ 99999) ∧ (0 ≤ to ∧ to ≤ 99999) by omega)), (by have q9 := lo_O_step hOo (hin2 (by omega)) (show 1 = (((lo_W (lo_pp (F 25) (F 26) k, 100000 * F 25 k + to, rg)).length : Nat) : Int) from hwn9) (fd' := (100000 * F 25 k + (F 26 k), 100000 * F 25 k + (to))) (fun _ h9 => absurd h9 (by omega)) (fun _ _ => hel); exact q9)⟩ (by omega) _ _ hP hD hS ls (lv_sub hl [7, 0, 8, 9] rfl)
              · skip
                refine lv_iload hx hb dX6_locate_127 (lv_at hl 1 rfl) ?_
                refine lv_iload hx hb dX6_locate_129 (lv_at hl 2 rfl) ?_
                refine ki_isub hx hb dX6_locate_131 ?_
                refine lv_iconst (v := iz 1) hx hb dX6_locate_132 (by decide) ?_
                refine ki_icmp_le (tgt := 140) hx hb dX6_locate_133 (by decide) (by omega) (by omega) (by omega) (by omega) (fun c_13 => ?_) (fun c_13 => ?_)
                · skip
                  refine lv_iconst (v := iz 0) hx hb dX6_locate_140 (by decide) ?_
                  refine lv_istore (lv' := [(8, .int (iz 0)), (7, .int (iz rg)), (6, .int (iz to)), (5, .int (iz (F 26 k))), (4, .int (iz (F 25 k))), (3, .int (iz kk)), (2, .int (iz nz)), (0, .ref mo), (1, .int (iz ask))]) hx hb dX6_locate_141 hl (by decide) rfl (fun ls hl => ?_)
                  refine lv_iload hx hb dX6_locate_143 (lv_at hl 0 rfl) ?_
                  refine ki_if_eq (tgt := 152) hx hb dX6_locate_145 (by decide) (by omega) (by omega) (fun c_14 => ?_) (fun c_14 => ?_)
                  · skip
                    refine lv_iload hx hb dX6_locate_152 (lv_at hl 2 rfl) ?_
                    refine lv_iload hx hb dX6_locate_154 (lv_at hl 3 rfl) ?_
                    refine ki_isub hx hb dX6_locate_156 ?_
                    refine lv_iconst (v := iz 1) hx hb dX6_locate_157 (by decide) ?_
                    refine ki_iadd hx hb dX6_locate_158 ?_
                    refine lv_istore (lv' := [(9, .int (iz ((to - (F 26 k)) + 1))), (8, .int (iz 0)), (7, .int (iz rg)), (6, .int (iz to)), (5, .int (iz (F 26 k))), (4, .int (iz (F 25 k))), (3, .int (iz kk)), (2, .int (iz nz)), (0, .ref mo), (1, .int (iz ask))]) hx hb dX6_locate_159 hl (by decide) rfl (fun ls hl => ?_)
                    have hno : ¬ (rg = 1 ∨ 2 ≤ (100000 * F 25 k + to) - (100000 * F 25 k + F 26 k)) := by omega
                    have hw1 : to = F 26 k → lo_W (lo_pp (F 25) (F 26) k, 100000 * F 25 k + to, rg) = [(100000 * F 25 k + F 26 k, 100000 * F 25 k + F 26 k)] := fun c9 => lo_W_1 hno (show 100000 * F 25 k + to = 100000 * F 25 k + F 26 k by omega)
                    have hw2 : ¬ to = F 26 k → lo_W (lo_pp (F 25) (F 26) k, 100000 * F 25 k + to, rg) = [(100000 * F 25 k + F 26 k, 100000 * F 25 k + F 26 k), (100000 * F 25 k + to, 100000 * F 25 k + to)] := fun c9 => lo_W_2 hno (show ¬ 100000 * F 25 k + to = 100000 * F 25 k + F 26 k by omega)
                    have hwn9 : (to - (F 26 k)) + 1 = (((lo_W (lo_pp (F 25) (F 26) k, 100000 * F 25 k + to, rg)).length : Nat) : Int) := by by_cases c9 : to = F 26 k; (rw [hw1 c9]; show to - F 26 k + 1 = 1; omega); (rw [hw2 c9]; show to - F 26 k + 1 = 2; omega)
                    replace hno := fun (_ : Unit) => hno
                    refine lv_iload_n hx hb dX6_locate_161 rfl (lv_at hl 9 rfl) ?_
                    refine lv_iload_n hx hb dX6_locate_162 rfl (lv_at hl 7 rfl) ?_
                    refine ki_icmp_lt (tgt := 218) hx hb dX6_locate_163 (by decide) (by omega) (by omega) (by omega) (by omega) (fun c_15 => ?_) (fun c_15 => ?_)
                    · skip
                      refine lv_iload_n hx hb dX6_locate_218 rfl (lv_at hl 7 rfl) ?_
                      refine lv_iload hx hb dX6_locate_219 (lv_at hl 0 rfl) ?_
                      refine ki_iadd hx hb dX6_locate_221 ?_
                      refine lv_istore_n (lv' := [(2, .int (iz (nz + ((to - (F 26 k)) + 1)))), (9, .int (iz ((to - (F 26 k)) + 1))), (8, .int (iz 0)), (7, .int (iz rg)), (6, .int (iz to)), (5, .int (iz (F 26 k))), (4, .int (iz (F 25 k))), (3, .int (iz kk)), (0, .ref mo), (1, .int (iz ask))]) hx hb dX6_locate_222 rfl hl (by decide) rfl (fun ls hl => ?_)
                      refine lv_goto (tgt := 4) hx hb dX6_locate_223 (by decide) ?_
                      exact ih4 (nz + ((to - (F 26 k)) + 1)) kk J ⟨hBJ, hfJ, by simp [mFd, va_up] at hfdJ ⊢; omega, by omega, by omega, (fun a9 b9 => hfq a9 (by omega)), (by have q9 := lo_O_step hOo (hin2 (by omega)) (show (to - (F 26 k)) + 1 = (((lo_W (lo_pp (F 25) (F 26) k, 100000 * F 25 k + to, rg)).length : Nat) : Int) from hwn9) (fun _ _ => rfl) (fun h8 h9 => absurd h9 (by omega)); exact q9)⟩ (by omega) _ _ hP hD hS ls (lv_sub hl [7, 0, 8, 9] rfl)
                    · skip
                      refine lv_iload_n hx hb dX6_locate_166 rfl (lv_at hl 9 rfl) ?_
                      refine lv_iload_n hx hb dX6_locate_167 rfl (lv_at hl 7 rfl) ?_
                      refine lv_iload hx hb dX6_locate_168 (lv_at hl 0 rfl) ?_
                      refine ki_iadd hx hb dX6_locate_170 ?_
                      refine ki_icmp_ge (tgt := 218) hx hb dX6_locate_171 (by decide) (by omega) (by omega) (by omega) (by omega) (fun c_16 => ?_) (fun c_16 => ?_)
                      · skip
                        refine lv_iload_n hx hb dX6_locate_218 rfl (lv_at hl 7 rfl) ?_
                        refine lv_iload hx hb dX6_locate_219 (lv_at hl 0 rfl) ?_
                        refine ki_iadd hx hb dX6_locate_221 ?_
                        refine lv_istore_n (lv' := [(2, .int (iz (nz + ((to - (F 26 k)) + 1)))), (9, .int (iz ((to - (F 26 k)) + 1))), (8, .int (iz 0)), (7, .int (iz rg)), (6, .int (iz to)), (5, .int (iz (F 26 k))), (4, .int (iz (F 25 k))), (3, .int (iz kk)), (0, .ref mo), (1, .int (iz ask))]) hx hb dX6_locate_222 rfl hl (by decide) rfl (fun ls hl => ?_)
                        refine lv_goto (tgt := 4) hx hb dX6_locate_223 (by decide) ?_
                        exact ih4 (nz + ((to - (F 26 k)) + 1)) kk J ⟨hBJ, hfJ, by simp [mFd, va_up] at hfdJ ⊢; omega, by omega, by omega, (fun a9 b9 => hfq a9 (by omega)), (by have q9 := lo_O_step hOo (hin2 (by omega)) (show (to - (F 26 k)) + 1 = (((lo_W (lo_pp (F 25) (F 26) k, 100000 * F 25 k + to, rg)).length : Nat) : Int) from hwn9) (fun _ _ => rfl) (fun h8 h9 => absurd h9 (by omega)); exact q9)⟩ (by omega) _ _ hP hD hS ls (lv_sub hl [7, 0, 8, 9] rfl)
                      · skip
                        refine lv_aload_n hx hb dX6_locate_174 rfl (lv_at hl 8 rfl) ?_
                        refine lv_iload hx hb dX6_locate_175 (lv_at hl 5 rfl) ?_
                        refine va_put (D := (dC, dI)) (ci := 6) (v := .int (iz (F 25 k))) (ty := .int) (C := RX6) (T := TX6) (N := 44) hx hb hts kt_X6 tyX6 tyX6_ok nmX6 hown hK hP hD hS 0 rfl rfl 31 (by decide) (kx_word hG kq_09_mput_0 rfl) (fun _ h9 => h9) rfl (by decide +kernel) rfl rfl (Nat.le_of_ble_eq_true rfl) dX6_locate_177 (fun H locs hP hD hS => ?_)
                        have hP : va_P (dC, dI) kxCl (mW mo ma cs (va_up J 31 (F 25 k)) F) H := hP
                        have hD : va_D A (mW mo ma cs (va_up J 31 (F 25 k)) F) := hD
                        refine lv_aload_n hx hb dX6_locate_180 rfl (lv_at hl 8 rfl) ?_
                        refine lv_iload hx hb dX6_locate_181 (lv_at hl 1 rfl) ?_
                        refine ki_if_eq (tgt := 191) hx hb dX6_locate_183 (by decide) (by omega) (by omega) (fun c_17 => ?_) (fun c_17 => ?_)
                        · skip
                          refine lv_iload hx hb dX6_locate_191 (lv_at hl 4 rfl) ?_
                          refine lv_iload_n hx hb dX6_locate_193 rfl (lv_at hl 9 rfl) ?_
                          refine ki_iadd hx hb dX6_locate_194 ?_
                          refine lv_iload_n hx hb dX6_locate_195 rfl (lv_at hl 7 rfl) ?_
                          refine ki_isub hx hb dX6_locate_196 ?_
                          refine va_put (D := (dC, dI)) (ci := 6) (v := .int (iz (((F 26 k) + ask) - nz))) (ty := .int) (C := RX6) (T := TX6) (N := 44) hx hb hts kt_X6 tyX6 tyX6_ok nmX6 hown hK hP hD hS 0 rfl rfl 32 (by decide) (kx_word hG kq_09_mput_1 rfl) (fun _ h9 => h9) rfl (by decide +kernel) rfl rfl (Nat.le_of_ble_eq_true rfl) dX6_locate_197 (fun H locs hP hD hS => ?_)
                          have hP : va_P (dC, dI) kxCl (mW mo ma cs (va_up (va_up J 31 (F 25 k)) 32 (((F 26 k) + ask) - nz)) F) H := hP
                          have hD : va_D A (mW mo ma cs (va_up (va_up J 31 (F 25 k)) 32 (((F 26 k) + ask) - nz)) F) := hD
                          refine lv_aload_n hx hb dX6_locate_200 rfl (lv_at hl 8 rfl) ?_
                          refine lv_iload hx hb dX6_locate_201 (lv_at hl 1 rfl) ?_
                          refine ki_if_eq (tgt := 211) hx hb dX6_locate_203 (by decide) (by omega) (by omega) (fun c_18 => ?_) (fun c_18 => ?_)
                          · skip
                            refine lv_aload_n hx hb dX6_locate_211 rfl (lv_at hl 8 rfl) ?_
                            refine va_get (D := (dC, dI)) (ci := 6) (v := .int (iz (((F 26 k) + ask) - nz))) (C := RX6) (T := TX6) (N := 44) hx hb hts kt_X6 hown hK hP 0 rfl rfl 32 (by decide) (kx_word hG kq_09_mput_1 rfl) (fun _ h9 => h9) rfl dX6_locate_212 ?_
                            refine va_put (D := (dC, dI)) (ci := 6) (v := .int (iz (((F 26 k) + ask) - nz))) (ty := .int) (C := RX6) (T := TX6) (N := 44) hx hb hts kt_X6 tyX6 tyX6_ok nmX6 hown hK hP hD hS 0 rfl rfl 33 (by decide) (kx_word hG kq_09_mput_2 rfl) (fun _ h9 => h9) rfl (by decide +kernel) rfl rfl (Nat.le_of_ble_eq_true rfl) dX6_locate_215 (fun H locs hP hD hS => ?_)
                            have hP : va_P (dC, dI) kxCl (mW mo ma cs (va_up (va_up (va_up J 31 (F 25 k)) 32 (((F 26 k) + ask) - nz)) 33 (((F 26 k) + ask) - nz)) F) H := hP
                            have hD : va_D A (mW mo ma cs (va_up (va_up (va_up J 31 (F 25 k)) 32 (((F 26 k) + ask) - nz)) 33 (((F 26 k) + ask) - nz)) F) := hD
                            have hel : (lo_W (lo_pp (F 25) (F 26) k, 100000 * F 25 k + to, rg))[(ask - nz).toNat]? = some (100000 * F 25 k + (((F 26 k) + ask) - nz), 100000 * F 25 k + (((F 26 k) + ask) - nz)) := by by_cases c9 : to = F 26 k; (rw [hw1 c9, show (ask - nz).toNat = 0 by omega]; show some (100000 * F 25 k + F 26 k, 100000 * F 25 k + F 26 k) = some (100000 * F 25 k + (((F 26 k) + ask) - nz), 100000 * F 25 k + (((F 26 k) + ask) - nz)); rw [show ((F 26 k) + ask) - nz = F 26 k by omega]); (rw [hw2 c9]; by_cases d9 : ask = nz; (rw [show (ask - nz).toNat = 0 by omega]; show some (100000 * F 25 k + F 26 k, 100000 * F 25 k + F 26 k) = some (100000 * F 25 k + (((F 26 k) + ask) - nz), 100000 * F 25 k + (((F 26 k) + ask) - nz)); rw [show ((F 26 k) + ask) - nz = F 26 k by omega]); (rw [show (ask - nz).toNat = 1 by omega]; show some (100000 * F 25 k + to, 100000 * F 25 k + to) = some (100000 * F 25 k + (((F 26 k) + ask) - nz), 100000 * F 25 k + (((F 26 k) + ask) - nz)); rw [show ((F 26 k) + ask) - nz = to by omega]))
                            refine lv_iload_n hx hb dX6_locate_218 rfl (lv_at hl 7 rfl) ?_
                            refine lv_iload hx hb dX6_locate_219 (lv_at hl 0 rfl) ?_
                            refine ki_iadd hx hb dX6_locate_221 ?_
                            refine lv_istore_n (lv' := [(2, .int (iz (nz + ((to - (F 26 k)) + 1)))), (9, .int (iz ((to - (F 26 k)) + 1))), (8, .int (iz 0)), (7, .int (iz rg)), (6, .int (iz to)), (5, .int (iz (F 26 k))), (4, .int (iz (F 25 k))), (3, .int (iz kk)), (0, .ref mo), (1, .int (iz ask))]) hx hb dX6_locate_222 rfl hl (by decide) rfl (fun ls hl => ?_)
                            refine lv_goto (tgt := 4) hx hb dX6_locate_223 (by decide) ?_
                            exact ih4 (nz + ((to - (F 26 k)) + 1)) kk (va_up (va_up (va_up J 31 (F 25 k)) 32 (((F 26 k) + ask) - nz)) 33 (((F 26 k) + ask) - nz)) ⟨(mB_i (mB_i (mB_i hBJ 31 (by omega) (by omega)) 32 (by omega) (by omega)) 33 (by omega) (by omega)), (mfr.upI (mfr.upI (mfr.upI hfJ (by decide) _) (by decide) _) (by decide) _), by simp [mFd, va_up] at hfdJ ⊢; omega, by omega, by omega, (fun a9 b9 => (show (0 ≤ ((F 26 k) + ask) - nz ∧ ((F 26 k) + ask) - nz ≤ 99999) ∧ (0 ≤ ((F 26 k) + ask) - nz ∧ ((F 26 k) + ask) - nz ≤ 99999) by omega)), (by have q9 := lo_O_step hOo (hin2 (by omega)) (show (to - (F 26 k)) + 1 = (((lo_W (lo_pp (F 25) (F 26) k, 100000 * F 25 k + to, rg)).length : Nat) : Int) from hwn9) (fd' := (100000 * F 25 k + (((F 26 k) + ask) - nz), 100000 * F 25 k + (((F 26 k) + ask) - nz))) (fun _ h9 => absurd h9 (by omega)) (fun _ _ => hel); exact q9)⟩ (by omega) _ _ hP hD hS ls (lv_sub hl [7, 0, 8, 9] rfl)
                          · omega
                        · omega
                  · omega
                · skip
                  refine lv_iconst (v := iz 1) hx hb dX6_locate_136 (by decide) ?_
                  refine lv_goto (tgt := 141) hx hb dX6_locate_137 (by decide) ?_
                  refine lv_istore (lv' := [(8, .int (iz 1)), (7, .int (iz rg)), (6, .int (iz to)), (5, .int (iz (F 26 k))), (4, .int (iz (F 25 k))), (3, .int (iz kk)), (2, .int (iz nz)), (0, .ref mo), (1, .int (iz ask))]) hx hb dX6_locate_141 hl (by decide) rfl (fun ls hl => ?_)
                  refine lv_iload hx hb dX6_locate_143 (lv_at hl 0 rfl) ?_
                  refine ki_if_eq (tgt := 152) hx hb dX6_locate_145 (by decide) (by omega) (by omega) (fun c_19 => ?_) (fun c_19 => ?_)
                  · omega
                  · skip
                    refine lv_iconst (v := iz 1) hx hb dX6_locate_148 (by decide) ?_
                    refine lv_goto (tgt := 159) hx hb dX6_locate_149 (by decide) ?_
                    refine lv_istore (lv' := [(9, .int (iz 1)), (8, .int (iz 1)), (7, .int (iz rg)), (6, .int (iz to)), (5, .int (iz (F 26 k))), (4, .int (iz (F 25 k))), (3, .int (iz kk)), (2, .int (iz nz)), (0, .ref mo), (1, .int (iz ask))]) hx hb dX6_locate_159 hl (by decide) rfl (fun ls hl => ?_)
                    have hw9 : lo_W (lo_pp (F 25) (F 26) k, 100000 * F 25 k + to, rg) = [(100000 * F 25 k + F 26 k, 100000 * F 25 k + to)] := lo_W_p (show rg = 1 ∨ 2 ≤ (100000 * F 25 k + to) - (100000 * F 25 k + F 26 k) by omega)
                    have hwn9 : 1 = (((lo_W (lo_pp (F 25) (F 26) k, 100000 * F 25 k + to, rg)).length : Nat) : Int) := by rw [hw9]; rfl
                    refine lv_iload_n hx hb dX6_locate_161 rfl (lv_at hl 9 rfl) ?_
                    refine lv_iload_n hx hb dX6_locate_162 rfl (lv_at hl 7 rfl) ?_
                    refine ki_icmp_lt (tgt := 218) hx hb dX6_locate_163 (by decide) (by omega) (by omega) (by omega) (by omega) (fun c_20 => ?_) (fun c_20 => ?_)
                    · skip
                      refine lv_iload_n hx hb dX6_locate_218 rfl (lv_at hl 7 rfl) ?_
                      refine lv_iload hx hb dX6_locate_219 (lv_at hl 0 rfl) ?_
                      refine ki_iadd hx hb dX6_locate_221 ?_
                      refine lv_istore_n (lv' := [(2, .int (iz (nz + 1))), (9, .int (iz 1)), (8, .int (iz 1)), (7, .int (iz rg)), (6, .int (iz to)), (5, .int (iz (F 26 k))), (4, .int (iz (F 25 k))), (3, .int (iz kk)), (0, .ref mo), (1, .int (iz ask))]) hx hb dX6_locate_222 rfl hl (by decide) rfl (fun ls hl => ?_)
                      refine lv_goto (tgt := 4) hx hb dX6_locate_223 (by decide) ?_
                      exact ih4 (nz + 1) kk J ⟨hBJ, hfJ, by simp [mFd, va_up] at hfdJ ⊢; omega, by omega, by omega, (fun a9 b9 => hfq a9 (by omega)), (by have q9 := lo_O_step hOo (hin2 (by omega)) (show 1 = (((lo_W (lo_pp (F 25) (F 26) k, 100000 * F 25 k + to, rg)).length : Nat) : Int) from hwn9) (fun _ _ => rfl) (fun h8 h9 => absurd h9 (by omega)); exact q9)⟩ (by omega) _ _ hP hD hS ls (lv_sub hl [7, 0, 8, 9] rfl)
                    · skip
                      refine lv_iload_n hx hb dX6_locate_166 rfl (lv_at hl 9 rfl) ?_
                      refine lv_iload_n hx hb dX6_locate_167 rfl (lv_at hl 7 rfl) ?_
                      refine lv_iload hx hb dX6_locate_168 (lv_at hl 0 rfl) ?_
                      refine ki_iadd hx hb dX6_locate_170 ?_
                      refine ki_icmp_ge (tgt := 218) hx hb dX6_locate_171 (by decide) (by omega) (by omega) (by omega) (by omega) (fun c_21 => ?_) (fun c_21 => ?_)
                      · skip
                        refine lv_iload_n hx hb dX6_locate_218 rfl (lv_at hl 7 rfl) ?_
                        refine lv_iload hx hb dX6_locate_219 (lv_at hl 0 rfl) ?_
                        refine ki_iadd hx hb dX6_locate_221 ?_
                        refine lv_istore_n (lv' := [(2, .int (iz (nz + 1))), (9, .int (iz 1)), (8, .int (iz 1)), (7, .int (iz rg)), (6, .int (iz to)), (5, .int (iz (F 26 k))), (4, .int (iz (F 25 k))), (3, .int (iz kk)), (0, .ref mo), (1, .int (iz ask))]) hx hb dX6_locate_222 rfl hl (by decide) rfl (fun ls hl => ?_)
                        refine lv_goto (tgt := 4) hx hb dX6_locate_223 (by decide) ?_
                        exact ih4 (nz + 1) kk J ⟨hBJ, hfJ, by simp [mFd, va_up] at hfdJ ⊢; omega, by omega, by omega, (fun a9 b9 => hfq a9 (by omega)), (by have q9 := lo_O_step hOo (hin2 (by omega)) (show 1 = (((lo_W (lo_pp (F 25) (F 26) k, 100000 * F 25 k + to, rg)).length : Nat) : Int) from hwn9) (fun _ _ => rfl) (fun h8 h9 => absurd h9 (by omega)); exact q9)⟩ (by omega) _ _ hP hD hS ls (lv_sub hl [7, 0, 8, 9] rfl)
                      · skip
                        refine lv_aload_n hx hb dX6_locate_174 rfl (lv_at hl 8 rfl) ?_
                        refine lv_iload hx hb dX6_locate_175 (lv_at hl 5 rfl) ?_
                        refine va_put (D := (dC, dI)) (ci := 6) (v := .int (iz (F 25 k))) (ty := .int) (C := RX6) (T := TX6) (N := 44) hx hb hts kt_X6 tyX6 tyX6_ok nmX6 hown hK hP hD hS 0 rfl rfl 31 (by decide) (kx_word hG kq_09_mput_0 rfl) (fun _ h9 => h9) rfl (by decide +kernel) rfl rfl (Nat.le_of_ble_eq_true rfl) dX6_locate_177 (fun H locs hP hD hS => ?_)
                        have hP : va_P (dC, dI) kxCl (mW mo ma cs (va_up J 31 (F 25 k)) F) H := hP
                        have hD : va_D A (mW mo ma cs (va_up J 31 (F 25 k)) F) := hD
                        refine lv_aload_n hx hb dX6_locate_180 rfl (lv_at hl 8 rfl) ?_
                        refine lv_iload hx hb dX6_locate_181 (lv_at hl 1 rfl) ?_
                        refine ki_if_eq (tgt := 191) hx hb dX6_locate_183 (by decide) (by omega) (by omega) (fun c_22 => ?_) (fun c_22 => ?_)
                        · omega
                        · skip
                          refine lv_iload hx hb dX6_locate_186 (lv_at hl 4 rfl) ?_
                          refine lv_goto (tgt := 197) hx hb dX6_locate_188 (by decide) ?_
                          refine va_put (D := (dC, dI)) (ci := 6) (v := .int (iz (F 26 k))) (ty := .int) (C := RX6) (T := TX6) (N := 44) hx hb hts kt_X6 tyX6 tyX6_ok nmX6 hown hK hP hD hS 0 rfl rfl 32 (by decide) (kx_word hG kq_09_mput_1 rfl) (fun _ h9 => h9) rfl (by decide +kernel) rfl rfl (Nat.le_of_ble_eq_true rfl) dX6_locate_197 (fun H locs hP hD hS => ?_)
                          have hP : va_P (dC, dI) kxCl (mW mo ma cs (va_up (va_up J 31 (F 25 k)) 32 (F 26 k)) F) H := hP
                          have hD : va_D A (mW mo ma cs (va_up (va_up J 31 (F 25 k)) 32 (F 26 k)) F) := hD
                          refine lv_aload_n hx hb dX6_locate_200 rfl (lv_at hl 8 rfl) ?_
                          refine lv_iload hx hb dX6_locate_201 (lv_at hl 1 rfl) ?_
                          refine ki_if_eq (tgt := 211) hx hb dX6_locate_203 (by decide) (by omega) (by omega) (fun c_23 => ?_) (fun c_23 => ?_)
                          · omega
                          · skip
                            refine lv_iload hx hb dX6_locate_206 (lv_at hl 3 rfl) ?_
                            refine lv_goto (tgt := 215) hx hb dX6_locate_208 (by decide) ?_
                            refine va_put (D := (dC, dI)) (ci := 6) (v := .int (iz to)) (ty := .int) (C := RX6) (T := TX6) (N := 44) hx hb hts kt_X6 tyX6 tyX6_ok nmX6 hown hK hP hD hS 0 rfl rfl 33 (by decide) (kx_word hG kq_09_mput_2 rfl) (fun _ h9 => h9) rfl (by decide +kernel) rfl rfl (Nat.le_of_ble_eq_true rfl) dX6_locate_215 (fun H locs hP hD hS => ?_)
                            have hP : va_P (dC, dI) kxCl (mW mo ma cs (va_up (va_up (va_up J 31 (F 25 k)) 32 (F 26 k)) 33 to) F) H := hP
                            have hD : va_D A (mW mo ma cs (va_up (va_up (va_up J 31 (F 25 k)) 32 (F 26 k)) 33 to) F) := hD
                            have hel : (lo_W (lo_pp (F 25) (F 26) k, 100000 * F 25 k + to, rg))[(ask - nz).toNat]? = some (100000 * F 25 k + (F 26 k), 100000 * F 25 k + (to)) := by rw [hw9, show (ask - nz).toNat = 0 by omega]; rfl
                            refine lv_iload_n hx hb dX6_locate_218 rfl (lv_at hl 7 rfl) ?_
                            refine lv_iload hx hb dX6_locate_219 (lv_at hl 0 rfl) ?_
                            refine ki_iadd hx hb dX6_locate_221 ?_
                            refine lv_istore_n (lv' := [(2, .int (iz (nz + 1))), (9, .int (iz 1)), (8, .int (iz 1)), (7, .int (iz rg)), (6, .int (iz to)), (5, .int (iz (F 26 k))), (4, .int (iz (F 25 k))), (3, .int (iz kk)), (0, .ref mo), (1, .int (iz ask))]) hx hb dX6_locate_222 rfl hl (by decide) rfl (fun ls hl => ?_)
                            refine lv_goto (tgt := 4) hx hb dX6_locate_223 (by decide) ?_
                            exact ih4 (nz + 1) kk (va_up (va_up (va_up J 31 (F 25 k)) 32 (F 26 k)) 33 to) ⟨(mB_i (mB_i (mB_i hBJ 31 (by omega) (by omega)) 32 (by omega) (by omega)) 33 (by omega) (by omega)), (mfr.upI (mfr.upI (mfr.upI hfJ (by decide) _) (by decide) _) (by decide) _), by simp [mFd, va_up] at hfdJ ⊢; omega, by omega, by omega, (fun a9 b9 => (show (0 ≤ F 26 k ∧ F 26 k ≤ 99999) ∧ (0 ≤ to ∧ to ≤ 99999) by omega)), (by have q9 := lo_O_step hOo (hin2 (by omega)) (show 1 = (((lo_W (lo_pp (F 25) (F 26) k, 100000 * F 25 k + to, rg)).length : Nat) : Int) from hwn9) (fd' := (100000 * F 25 k + (F 26 k), 100000 * F 25 k + (to))) (fun _ h9 => absurd h9 (by omega)) (fun _ _ => hel); exact q9)⟩ (by omega) _ _ hP hD hS ls (lv_sub hl [7, 0, 8, 9] rfl)
            · skip
              have hgkk := hgt kk (by omega) (by omega)
              have hvkk := lo_vx hGv (show 0 ≤ kk by omega) (show kk < I 29 by omega)
              have hv3 : 1 ≤ (100000 * F 25 kk + F 26 kk) % 100000 := hvkk.2.2.1
              have h01 : F 28 kk = 0 ∨ F 28 kk = 1 := lo_v01 hvkk
              have hso9 : k < kk → 100000 * F 25 k + F 26 k ≤ 100000 * F 25 kk + F 26 kk := fun h9 => lo_so_ix hGs (show 0 ≤ k by omega) h9 (show kk < (((I 29).toNat : Nat) : Int) by omega)
              have hso8 : k ≤ kk → 100000 * F 25 k + F 26 k ≤ 100000 * F 25 kk + F 26 kk := fun h9 => by by_cases c9 : k = kk; (rw [c9]; exact Int.le_refl _); exact hso9 (by omega)
              have hso7 := hso8 (by omega)
              refine lv_aload_n hx hb dX6_locate_47 rfl (lv_at hl 6 rfl) ?_
              refine va_get (D := (dC, dI)) (ci := 6) (v := .ref (ma 25)) (C := RX6) (T := TX6) (N := 44) hx hb hts kt_X6 hown hK hP 0 rfl rfl 25 (by decide) (kx_word hG kq_08_mgather_1 rfl) (fun _ h9 => h9) rfl dX6_locate_48 ?_
              refine lv_iload_n hx hb dX6_locate_51 rfl (lv_at hl 4 rfl) ?_
              refine ki_iald (F := F 25) hx hb hK hP 20 19 rfl rfl (by omega) (by omega) (by decide) dX6_locate_52 ?_
              have hbd_24 := hBJ.2 25 kk
              refine lv_iload hx hb dX6_locate_53 (lv_at hl 3 rfl) ?_
              refine ki_icmp_ne (tgt := 122) hx hb dX6_locate_55 (by decide) (by omega) (by omega) (by omega) (by omega) (fun c_25 => ?_) (fun c_25 => ?_)
              · skip
                have hvk := lo_vx hGv (show 0 ≤ k by omega) (show k < I 29 by omega)
                have hin2 := lo_N_out hNn (show 0 ≤ k by omega) (show k < I 29 by omega) (show kk ≤ I 29 by omega) (by first | exact Or.inl (show kk = I 29 by omega) | exact Or.inr (show ¬ 100000 * F 25 kk + F 26 kk ≤ 100000 * F 25 k + to + 1 by omega)) (lo_v01 hvk)
                have hft9 : F 26 k ≤ to := by omega
                refine lv_iload hx hb dX6_locate_122 (lv_at hl 0 rfl) ?_
                refine ki_if_ne (tgt := 136) hx hb dX6_locate_124 (by decide) (by omega) (by omega) (fun c_26 => ?_) (fun c_26 => ?_)
                · skip
                  refine lv_iconst (v := iz 1) hx hb dX6_locate_136 (by decide) ?_
                  refine lv_goto (tgt := 141) hx hb dX6_locate_137 (by decide) ?_
                  refine lv_istore (lv' := [(8, .int (iz 1)), (7, .int (iz rg)), (6, .int (iz to)), (5, .int (iz (F 26 k))), (4, .int (iz (F 25 k))), (3, .int (iz kk)), (2, .int (iz nz)), (0, .ref mo), (1, .int (iz ask))]) hx hb dX6_locate_141 hl (by decide) rfl (fun ls hl => ?_)
                  refine lv_iload hx hb dX6_locate_143 (lv_at hl 0 rfl) ?_
                  refine ki_if_eq (tgt := 152) hx hb dX6_locate_145 (by decide) (by omega) (by omega) (fun c_27 => ?_) (fun c_27 => ?_)
                  · omega
                  · skip
                    refine lv_iconst (v := iz 1) hx hb dX6_locate_148 (by decide) ?_
                    refine lv_goto (tgt := 159) hx hb dX6_locate_149 (by decide) ?_
                    refine lv_istore (lv' := [(9, .int (iz 1)), (8, .int (iz 1)), (7, .int (iz rg)), (6, .int (iz to)), (5, .int (iz (F 26 k))), (4, .int (iz (F 25 k))), (3, .int (iz kk)), (2, .int (iz nz)), (0, .ref mo), (1, .int (iz ask))]) hx hb dX6_locate_159 hl (by decide) rfl (fun ls hl => ?_)
                    have hw9 : lo_W (lo_pp (F 25) (F 26) k, 100000 * F 25 k + to, rg) = [(100000 * F 25 k + F 26 k, 100000 * F 25 k + to)] := lo_W_p (show rg = 1 ∨ 2 ≤ (100000 * F 25 k + to) - (100000 * F 25 k + F 26 k) by omega)
                    have hwn9 : 1 = (((lo_W (lo_pp (F 25) (F 26) k, 100000 * F 25 k + to, rg)).length : Nat) : Int) := by rw [hw9]; rfl
                    refine lv_iload_n hx hb dX6_locate_161 rfl (lv_at hl 9 rfl) ?_
                    refine lv_iload_n hx hb dX6_locate_162 rfl (lv_at hl 7 rfl) ?_
                    refine ki_icmp_lt (tgt := 218) hx hb dX6_locate_163 (by decide) (by omega) (by omega) (by omega) (by omega) (fun c_28 => ?_) (fun c_28 => ?_)
                    · skip
                      refine lv_iload_n hx hb dX6_locate_218 rfl (lv_at hl 7 rfl) ?_
                      refine lv_iload hx hb dX6_locate_219 (lv_at hl 0 rfl) ?_
                      refine ki_iadd hx hb dX6_locate_221 ?_
                      refine lv_istore_n (lv' := [(2, .int (iz (nz + 1))), (9, .int (iz 1)), (8, .int (iz 1)), (7, .int (iz rg)), (6, .int (iz to)), (5, .int (iz (F 26 k))), (4, .int (iz (F 25 k))), (3, .int (iz kk)), (0, .ref mo), (1, .int (iz ask))]) hx hb dX6_locate_222 rfl hl (by decide) rfl (fun ls hl => ?_)
                      refine lv_goto (tgt := 4) hx hb dX6_locate_223 (by decide) ?_
                      exact ih4 (nz + 1) kk J ⟨hBJ, hfJ, by simp [mFd, va_up] at hfdJ ⊢; omega, by omega, by omega, (fun a9 b9 => hfq a9 (by omega)), (by have q9 := lo_O_step hOo (hin2 (by omega)) (show 1 = (((lo_W (lo_pp (F 25) (F 26) k, 100000 * F 25 k + to, rg)).length : Nat) : Int) from hwn9) (fun _ _ => rfl) (fun h8 h9 => absurd h9 (by omega)); exact q9)⟩ (by omega) _ _ hP hD hS ls (lv_sub hl [7, 0, 8, 9] rfl)
                    · skip
                      refine lv_iload_n hx hb dX6_locate_166 rfl (lv_at hl 9 rfl) ?_
                      refine lv_iload_n hx hb dX6_locate_167 rfl (lv_at hl 7 rfl) ?_
                      refine lv_iload hx hb dX6_locate_168 (lv_at hl 0 rfl) ?_
                      refine ki_iadd hx hb dX6_locate_170 ?_
                      refine ki_icmp_ge (tgt := 218) hx hb dX6_locate_171 (by decide) (by omega) (by omega) (by omega) (by omega) (fun c_29 => ?_) (fun c_29 => ?_)
                      · skip
                        refine lv_iload_n hx hb dX6_locate_218 rfl (lv_at hl 7 rfl) ?_
                        refine lv_iload hx hb dX6_locate_219 (lv_at hl 0 rfl) ?_
                        refine ki_iadd hx hb dX6_locate_221 ?_
                        refine lv_istore_n (lv' := [(2, .int (iz (nz + 1))), (9, .int (iz 1)), (8, .int (iz 1)), (7, .int (iz rg)), (6, .int (iz to)), (5, .int (iz (F 26 k))), (4, .int (iz (F 25 k))), (3, .int (iz kk)), (0, .ref mo), (1, .int (iz ask))]) hx hb dX6_locate_222 rfl hl (by decide) rfl (fun ls hl => ?_)
                        refine lv_goto (tgt := 4) hx hb dX6_locate_223 (by decide) ?_
                        exact ih4 (nz + 1) kk J ⟨hBJ, hfJ, by simp [mFd, va_up] at hfdJ ⊢; omega, by omega, by omega, (fun a9 b9 => hfq a9 (by omega)), (by have q9 := lo_O_step hOo (hin2 (by omega)) (show 1 = (((lo_W (lo_pp (F 25) (F 26) k, 100000 * F 25 k + to, rg)).length : Nat) : Int) from hwn9) (fun _ _ => rfl) (fun h8 h9 => absurd h9 (by omega)); exact q9)⟩ (by omega) _ _ hP hD hS ls (lv_sub hl [7, 0, 8, 9] rfl)
                      · skip
                        refine lv_aload_n hx hb dX6_locate_174 rfl (lv_at hl 8 rfl) ?_
                        refine lv_iload hx hb dX6_locate_175 (lv_at hl 5 rfl) ?_
                        refine va_put (D := (dC, dI)) (ci := 6) (v := .int (iz (F 25 k))) (ty := .int) (C := RX6) (T := TX6) (N := 44) hx hb hts kt_X6 tyX6 tyX6_ok nmX6 hown hK hP hD hS 0 rfl rfl 31 (by decide) (kx_word hG kq_09_mput_0 rfl) (fun _ h9 => h9) rfl (by decide +kernel) rfl rfl (Nat.le_of_ble_eq_true rfl) dX6_locate_177 (fun H locs hP hD hS => ?_)
                        have hP : va_P (dC, dI) kxCl (mW mo ma cs (va_up J 31 (F 25 k)) F) H := hP
                        have hD : va_D A (mW mo ma cs (va_up J 31 (F 25 k)) F) := hD
                        refine lv_aload_n hx hb dX6_locate_180 rfl (lv_at hl 8 rfl) ?_
                        refine lv_iload hx hb dX6_locate_181 (lv_at hl 1 rfl) ?_
                        refine ki_if_eq (tgt := 191) hx hb dX6_locate_183 (by decide) (by omega) (by omega) (fun c_30 => ?_) (fun c_30 => ?_)
                        · omega
                        · skip
                          refine lv_iload hx hb dX6_locate_186 (lv_at hl 4 rfl) ?_
                          refine lv_goto (tgt := 197) hx hb dX6_locate_188 (by decide) ?_
                          refine va_put (D := (dC, dI)) (ci := 6) (v := .int (iz (F 26 k))) (ty := .int) (C := RX6) (T := TX6) (N := 44) hx hb hts kt_X6 tyX6 tyX6_ok nmX6 hown hK hP hD hS 0 rfl rfl 32 (by decide) (kx_word hG kq_09_mput_1 rfl) (fun _ h9 => h9) rfl (by decide +kernel) rfl rfl (Nat.le_of_ble_eq_true rfl) dX6_locate_197 (fun H locs hP hD hS => ?_)
                          have hP : va_P (dC, dI) kxCl (mW mo ma cs (va_up (va_up J 31 (F 25 k)) 32 (F 26 k)) F) H := hP
                          have hD : va_D A (mW mo ma cs (va_up (va_up J 31 (F 25 k)) 32 (F 26 k)) F) := hD
                          refine lv_aload_n hx hb dX6_locate_200 rfl (lv_at hl 8 rfl) ?_
                          refine lv_iload hx hb dX6_locate_201 (lv_at hl 1 rfl) ?_
                          refine ki_if_eq (tgt := 211) hx hb dX6_locate_203 (by decide) (by omega) (by omega) (fun c_31 => ?_) (fun c_31 => ?_)
                          · omega
                          · skip
                            refine lv_iload hx hb dX6_locate_206 (lv_at hl 3 rfl) ?_
                            refine lv_goto (tgt := 215) hx hb dX6_locate_208 (by decide) ?_
                            refine va_put (D := (dC, dI)) (ci := 6) (v := .int (iz to)) (ty := .int) (C := RX6) (T := TX6) (N := 44) hx hb hts kt_X6 tyX6 tyX6_ok nmX6 hown hK hP hD hS 0 rfl rfl 33 (by decide) (kx_word hG kq_09_mput_2 rfl) (fun _ h9 => h9) rfl (by decide +kernel) rfl rfl (Nat.le_of_ble_eq_true rfl) dX6_locate_215 (fun H locs hP hD hS => ?_)
                            have hP : va_P (dC, dI) kxCl (mW mo ma cs (va_up (va_up (va_up J 31 (F 25 k)) 32 (F 26 k)) 33 to) F) H := hP
                            have hD : va_D A (mW mo ma cs (va_up (va_up (va_up J 31 (F 25 k)) 32 (F 26 k)) 33 to) F) := hD
                            have hel : (lo_W (lo_pp (F 25) (F 26) k, 100000 * F 25 k + to, rg))[(ask - nz).toNat]? = some (100000 * F 25 k + (F 26 k), 100000 * F 25 k + (to)) := by rw [hw9, show (ask - nz).toNat = 0 by omega]; rfl
                            refine lv_iload_n hx hb dX6_locate_218 rfl (lv_at hl 7 rfl) ?_
                            refine lv_iload hx hb dX6_locate_219 (lv_at hl 0 rfl) ?_
                            refine ki_iadd hx hb dX6_locate_221 ?_
                            refine lv_istore_n (lv' := [(2, .int (iz (nz + 1))), (9, .int (iz 1)), (8, .int (iz 1)), (7, .int (iz rg)), (6, .int (iz to)), (5, .int (iz (F 26 k))), (4, .int (iz (F 25 k))), (3, .int (iz kk)), (0, .ref mo), (1, .int (iz ask))]) hx hb dX6_locate_222 rfl hl (by decide) rfl (fun ls hl => ?_)
                            refine lv_goto (tgt := 4) hx hb dX6_locate_223 (by decide) ?_
                            exact ih4 (nz + 1) kk (va_up (va_up (va_up J 31 (F 25 k)) 32 (F 26 k)) 33 to) ⟨(mB_i (mB_i (mB_i hBJ 31 (by omega) (by omega)) 32 (by omega) (by omega)) 33 (by omega) (by omega)), (mfr.upI (mfr.upI (mfr.upI hfJ (by decide) _) (by decide) _) (by decide) _), by simp [mFd, va_up] at hfdJ ⊢; omega, by omega, by omega, (fun a9 b9 => (show (0 ≤ F 26 k ∧ F 26 k ≤ 99999) ∧ (0 ≤ to ∧ to ≤ 99999) by omega)), (by have q9 := lo_O_step hOo (hin2 (by omega)) (show 1 = (((lo_W (lo_pp (F 25) (F 26) k, 100000 * F 25 k + to, rg)).length : Nat) : Int) from hwn9) (fd' := (100000 * F 25 k + (F 26 k), 100000 * F 25 k + (to))) (fun _ h9 => absurd h9 (by omega)) (fun _ _ => hel); exact q9)⟩ (by omega) _ _ hP hD hS ls (lv_sub hl [7, 0, 8, 9] rfl)
                · skip
                  refine lv_iload hx hb dX6_locate_127 (lv_at hl 1 rfl) ?_
                  refine lv_iload hx hb dX6_locate_129 (lv_at hl 2 rfl) ?_
                  refine ki_isub hx hb dX6_locate_131 ?_
                  refine lv_iconst (v := iz 1) hx hb dX6_locate_132 (by decide) ?_
                  refine ki_icmp_le (tgt := 140) hx hb dX6_locate_133 (by decide) (by omega) (by omega) (by omega) (by omega) (fun c_32 => ?_) (fun c_32 => ?_)
                  · skip
                    refine lv_iconst (v := iz 0) hx hb dX6_locate_140 (by decide) ?_
                    refine lv_istore (lv' := [(8, .int (iz 0)), (7, .int (iz rg)), (6, .int (iz to)), (5, .int (iz (F 26 k))), (4, .int (iz (F 25 k))), (3, .int (iz kk)), (2, .int (iz nz)), (0, .ref mo), (1, .int (iz ask))]) hx hb dX6_locate_141 hl (by decide) rfl (fun ls hl => ?_)
                    refine lv_iload hx hb dX6_locate_143 (lv_at hl 0 rfl) ?_
                    refine ki_if_eq (tgt := 152) hx hb dX6_locate_145 (by decide) (by omega) (by omega) (fun c_33 => ?_) (fun c_33 => ?_)
                    · skip
                      refine lv_iload hx hb dX6_locate_152 (lv_at hl 2 rfl) ?_
                      refine lv_iload hx hb dX6_locate_154 (lv_at hl 3 rfl) ?_
                      refine ki_isub hx hb dX6_locate_156 ?_
                      refine lv_iconst (v := iz 1) hx hb dX6_locate_157 (by decide) ?_
                      refine ki_iadd hx hb dX6_locate_158 ?_
                      refine lv_istore (lv' := [(9, .int (iz ((to - (F 26 k)) + 1))), (8, .int (iz 0)), (7, .int (iz rg)), (6, .int (iz to)), (5, .int (iz (F 26 k))), (4, .int (iz (F 25 k))), (3, .int (iz kk)), (2, .int (iz nz)), (0, .ref mo), (1, .int (iz ask))]) hx hb dX6_locate_159 hl (by decide) rfl (fun ls hl => ?_)
                      have hno : ¬ (rg = 1 ∨ 2 ≤ (100000 * F 25 k + to) - (100000 * F 25 k + F 26 k)) := by omega
                      have hw1 : to = F 26 k → lo_W (lo_pp (F 25) (F 26) k, 100000 * F 25 k + to, rg) = [(100000 * F 25 k + F 26 k, 100000 * F 25 k + F 26 k)] := fun c9 => lo_W_1 hno (show 100000 * F 25 k + to = 100000 * F 25 k + F 26 k by omega)
                      have hw2 : ¬ to = F 26 k → lo_W (lo_pp (F 25) (F 26) k, 100000 * F 25 k + to, rg) = [(100000 * F 25 k + F 26 k, 100000 * F 25 k + F 26 k), (100000 * F 25 k + to, 100000 * F 25 k + to)] := fun c9 => lo_W_2 hno (show ¬ 100000 * F 25 k + to = 100000 * F 25 k + F 26 k by omega)
                      have hwn9 : (to - (F 26 k)) + 1 = (((lo_W (lo_pp (F 25) (F 26) k, 100000 * F 25 k + to, rg)).length : Nat) : Int) := by by_cases c9 : to = F 26 k; (rw [hw1 c9]; show to - F 26 k + 1 = 1; omega); (rw [hw2 c9]; show to - F 26 k + 1 = 2; omega)
                      replace hno := fun (_ : Unit) => hno
                      refine lv_iload_n hx hb dX6_locate_161 rfl (lv_at hl 9 rfl) ?_
                      refine lv_iload_n hx hb dX6_locate_162 rfl (lv_at hl 7 rfl) ?_
                      refine ki_icmp_lt (tgt := 218) hx hb dX6_locate_163 (by decide) (by omega) (by omega) (by omega) (by omega) (fun c_34 => ?_) (fun c_34 => ?_)
                      · skip
                        refine lv_iload_n hx hb dX6_locate_218 rfl (lv_at hl 7 rfl) ?_
                        refine lv_iload hx hb dX6_locate_219 (lv_at hl 0 rfl) ?_
                        refine ki_iadd hx hb dX6_locate_221 ?_
                        refine lv_istore_n (lv' := [(2, .int (iz (nz + ((to - (F 26 k)) + 1)))), (9, .int (iz ((to - (F 26 k)) + 1))), (8, .int (iz 0)), (7, .int (iz rg)), (6, .int (iz to)), (5, .int (iz (F 26 k))), (4, .int (iz (F 25 k))), (3, .int (iz kk)), (0, .ref mo), (1, .int (iz ask))]) hx hb dX6_locate_222 rfl hl (by decide) rfl (fun ls hl => ?_)
                        refine lv_goto (tgt := 4) hx hb dX6_locate_223 (by decide) ?_
                        exact ih4 (nz + ((to - (F 26 k)) + 1)) kk J ⟨hBJ, hfJ, by simp [mFd, va_up] at hfdJ ⊢; omega, by omega, by omega, (fun a9 b9 => hfq a9 (by omega)), (by have q9 := lo_O_step hOo (hin2 (by omega)) (show (to - (F 26 k)) + 1 = (((lo_W (lo_pp (F 25) (F 26) k, 100000 * F 25 k + to, rg)).length : Nat) : Int) from hwn9) (fun _ _ => rfl) (fun h8 h9 => absurd h9 (by omega)); exact q9)⟩ (by omega) _ _ hP hD hS ls (lv_sub hl [7, 0, 8, 9] rfl)
                      · skip
                        refine lv_iload_n hx hb dX6_locate_166 rfl (lv_at hl 9 rfl) ?_
                        refine lv_iload_n hx hb dX6_locate_167 rfl (lv_at hl 7 rfl) ?_
                        refine lv_iload hx hb dX6_locate_168 (lv_at hl 0 rfl) ?_
                        refine ki_iadd hx hb dX6_locate_170 ?_
                        refine ki_icmp_ge (tgt := 218) hx hb dX6_locate_171 (by decide) (by omega) (by omega) (by omega) (by omega) (fun c_35 => ?_) (fun c_35 => ?_)
                        · skip
                          refine lv_iload_n hx hb dX6_locate_218 rfl (lv_at hl 7 rfl) ?_
                          refine lv_iload hx hb dX6_locate_219 (lv_at hl 0 rfl) ?_
                          refine ki_iadd hx hb dX6_locate_221 ?_
                          refine lv_istore_n (lv' := [(2, .int (iz (nz + ((to - (F 26 k)) + 1)))), (9, .int (iz ((to - (F 26 k)) + 1))), (8, .int (iz 0)), (7, .int (iz rg)), (6, .int (iz to)), (5, .int (iz (F 26 k))), (4, .int (iz (F 25 k))), (3, .int (iz kk)), (0, .ref mo), (1, .int (iz ask))]) hx hb dX6_locate_222 rfl hl (by decide) rfl (fun ls hl => ?_)
                          refine lv_goto (tgt := 4) hx hb dX6_locate_223 (by decide) ?_
                          exact ih4 (nz + ((to - (F 26 k)) + 1)) kk J ⟨hBJ, hfJ, by simp [mFd, va_up] at hfdJ ⊢; omega, by omega, by omega, (fun a9 b9 => hfq a9 (by omega)), (by have q9 := lo_O_step hOo (hin2 (by omega)) (show (to - (F 26 k)) + 1 = (((lo_W (lo_pp (F 25) (F 26) k, 100000 * F 25 k + to, rg)).length : Nat) : Int) from hwn9) (fun _ _ => rfl) (fun h8 h9 => absurd h9 (by omega)); exact q9)⟩ (by omega) _ _ hP hD hS ls (lv_sub hl [7, 0, 8, 9] rfl)
                        · skip
                          refine lv_aload_n hx hb dX6_locate_174 rfl (lv_at hl 8 rfl) ?_
                          refine lv_iload hx hb dX6_locate_175 (lv_at hl 5 rfl) ?_
                          refine va_put (D := (dC, dI)) (ci := 6) (v := .int (iz (F 25 k))) (ty := .int) (C := RX6) (T := TX6) (N := 44) hx hb hts kt_X6 tyX6 tyX6_ok nmX6 hown hK hP hD hS 0 rfl rfl 31 (by decide) (kx_word hG kq_09_mput_0 rfl) (fun _ h9 => h9) rfl (by decide +kernel) rfl rfl (Nat.le_of_ble_eq_true rfl) dX6_locate_177 (fun H locs hP hD hS => ?_)
                          have hP : va_P (dC, dI) kxCl (mW mo ma cs (va_up J 31 (F 25 k)) F) H := hP
                          have hD : va_D A (mW mo ma cs (va_up J 31 (F 25 k)) F) := hD
                          refine lv_aload_n hx hb dX6_locate_180 rfl (lv_at hl 8 rfl) ?_
                          refine lv_iload hx hb dX6_locate_181 (lv_at hl 1 rfl) ?_
                          refine ki_if_eq (tgt := 191) hx hb dX6_locate_183 (by decide) (by omega) (by omega) (fun c_36 => ?_) (fun c_36 => ?_)
                          · skip
                            refine lv_iload hx hb dX6_locate_191 (lv_at hl 4 rfl) ?_
                            refine lv_iload_n hx hb dX6_locate_193 rfl (lv_at hl 9 rfl) ?_
                            refine ki_iadd hx hb dX6_locate_194 ?_
                            refine lv_iload_n hx hb dX6_locate_195 rfl (lv_at hl 7 rfl) ?_
                            refine ki_isub hx hb dX6_locate_196 ?_
                            refine va_put (D := (dC, dI)) (ci := 6) (v := .int (iz (((F 26 k) + ask) - nz))) (ty := .int) (C := RX6) (T := TX6) (N := 44) hx hb hts kt_X6 tyX6 tyX6_ok nmX6 hown hK hP hD hS 0 rfl rfl 32 (by decide) (kx_word hG kq_09_mput_1 rfl) (fun _ h9 => h9) rfl (by decide +kernel) rfl rfl (Nat.le_of_ble_eq_true rfl) dX6_locate_197 (fun H locs hP hD hS => ?_)
                            have hP : va_P (dC, dI) kxCl (mW mo ma cs (va_up (va_up J 31 (F 25 k)) 32 (((F 26 k) + ask) - nz)) F) H := hP
                            have hD : va_D A (mW mo ma cs (va_up (va_up J 31 (F 25 k)) 32 (((F 26 k) + ask) - nz)) F) := hD
                            refine lv_aload_n hx hb dX6_locate_200 rfl (lv_at hl 8 rfl) ?_
                            refine lv_iload hx hb dX6_locate_201 (lv_at hl 1 rfl) ?_
                            refine ki_if_eq (tgt := 211) hx hb dX6_locate_203 (by decide) (by omega) (by omega) (fun c_37 => ?_) (fun c_37 => ?_)
                            · skip
                              refine lv_aload_n hx hb dX6_locate_211 rfl (lv_at hl 8 rfl) ?_
                              refine va_get (D := (dC, dI)) (ci := 6) (v := .int (iz (((F 26 k) + ask) - nz))) (C := RX6) (T := TX6) (N := 44) hx hb hts kt_X6 hown hK hP 0 rfl rfl 32 (by decide) (kx_word hG kq_09_mput_1 rfl) (fun _ h9 => h9) rfl dX6_locate_212 ?_
                              refine va_put (D := (dC, dI)) (ci := 6) (v := .int (iz (((F 26 k) + ask) - nz))) (ty := .int) (C := RX6) (T := TX6) (N := 44) hx hb hts kt_X6 tyX6 tyX6_ok nmX6 hown hK hP hD hS 0 rfl rfl 33 (by decide) (kx_word hG kq_09_mput_2 rfl) (fun _ h9 => h9) rfl (by decide +kernel) rfl rfl (Nat.le_of_ble_eq_true rfl) dX6_locate_215 (fun H locs hP hD hS => ?_)
                              have hP : va_P (dC, dI) kxCl (mW mo ma cs (va_up (va_up (va_up J 31 (F 25 k)) 32 (((F 26 k) + ask) - nz)) 33 (((F 26 k) + ask) - nz)) F) H := hP
                              have hD : va_D A (mW mo ma cs (va_up (va_up (va_up J 31 (F 25 k)) 32 (((F 26 k) + ask) - nz)) 33 (((F 26 k) + ask) - nz)) F) := hD
                              have hel : (lo_W (lo_pp (F 25) (F 26) k, 100000 * F 25 k + to, rg))[(ask - nz).toNat]? = some (100000 * F 25 k + (((F 26 k) + ask) - nz), 100000 * F 25 k + (((F 26 k) + ask) - nz)) := by by_cases c9 : to = F 26 k; (rw [hw1 c9, show (ask - nz).toNat = 0 by omega]; show some (100000 * F 25 k + F 26 k, 100000 * F 25 k + F 26 k) = some (100000 * F 25 k + (((F 26 k) + ask) - nz), 100000 * F 25 k + (((F 26 k) + ask) - nz)); rw [show ((F 26 k) + ask) - nz = F 26 k by omega]); (rw [hw2 c9]; by_cases d9 : ask = nz; (rw [show (ask - nz).toNat = 0 by omega]; show some (100000 * F 25 k + F 26 k, 100000 * F 25 k + F 26 k) = some (100000 * F 25 k + (((F 26 k) + ask) - nz), 100000 * F 25 k + (((F 26 k) + ask) - nz)); rw [show ((F 26 k) + ask) - nz = F 26 k by omega]); (rw [show (ask - nz).toNat = 1 by omega]; show some (100000 * F 25 k + to, 100000 * F 25 k + to) = some (100000 * F 25 k + (((F 26 k) + ask) - nz), 100000 * F 25 k + (((F 26 k) + ask) - nz)); rw [show ((F 26 k) + ask) - nz = to by omega]))
                              refine lv_iload_n hx hb dX6_locate_218 rfl (lv_at hl 7 rfl) ?_
                              refine lv_iload hx hb dX6_locate_219 (lv_at hl 0 rfl) ?_
                              refine ki_iadd hx hb dX6_locate_221 ?_
                              refine lv_istore_n (lv' := [(2, .int (iz (nz + ((to - (F 26 k)) + 1)))), (9, .int (iz ((to - (F 26 k)) + 1))), (8, .int (iz 0)), (7, .int (iz rg)), (6, .int (iz to)), (5, .int (iz (F 26 k))), (4, .int (iz (F 25 k))), (3, .int (iz kk)), (0, .ref mo), (1, .int (iz ask))]) hx hb dX6_locate_222 rfl hl (by decide) rfl (fun ls hl => ?_)
                              refine lv_goto (tgt := 4) hx hb dX6_locate_223 (by decide) ?_
                              exact ih4 (nz + ((to - (F 26 k)) + 1)) kk (va_up (va_up (va_up J 31 (F 25 k)) 32 (((F 26 k) + ask) - nz)) 33 (((F 26 k) + ask) - nz)) ⟨(mB_i (mB_i (mB_i hBJ 31 (by omega) (by omega)) 32 (by omega) (by omega)) 33 (by omega) (by omega)), (mfr.upI (mfr.upI (mfr.upI hfJ (by decide) _) (by decide) _) (by decide) _), by simp [mFd, va_up] at hfdJ ⊢; omega, by omega, by omega, (fun a9 b9 => (show (0 ≤ ((F 26 k) + ask) - nz ∧ ((F 26 k) + ask) - nz ≤ 99999) ∧ (0 ≤ ((F 26 k) + ask) - nz ∧ ((F 26 k) + ask) - nz ≤ 99999) by omega)), (by have q9 := lo_O_step hOo (hin2 (by omega)) (show (to - (F 26 k)) + 1 = (((lo_W (lo_pp (F 25) (F 26) k, 100000 * F 25 k + to, rg)).length : Nat) : Int) from hwn9) (fd' := (100000 * F 25 k + (((F 26 k) + ask) - nz), 100000 * F 25 k + (((F 26 k) + ask) - nz))) (fun _ h9 => absurd h9 (by omega)) (fun _ _ => hel); exact q9)⟩ (by omega) _ _ hP hD hS ls (lv_sub hl [7, 0, 8, 9] rfl)
                            · omega
                          · omega
                    · omega
                  · skip
                    refine lv_iconst (v := iz 1) hx hb dX6_locate_136 (by decide) ?_
                    refine lv_goto (tgt := 141) hx hb dX6_locate_137 (by decide) ?_
                    refine lv_istore (lv' := [(8, .int (iz 1)), (7, .int (iz rg)), (6, .int (iz to)), (5, .int (iz (F 26 k))), (4, .int (iz (F 25 k))), (3, .int (iz kk)), (2, .int (iz nz)), (0, .ref mo), (1, .int (iz ask))]) hx hb dX6_locate_141 hl (by decide) rfl (fun ls hl => ?_)
                    refine lv_iload hx hb dX6_locate_143 (lv_at hl 0 rfl) ?_
                    refine ki_if_eq (tgt := 152) hx hb dX6_locate_145 (by decide) (by omega) (by omega) (fun c_38 => ?_) (fun c_38 => ?_)
                    · omega
                    · skip
                      refine lv_iconst (v := iz 1) hx hb dX6_locate_148 (by decide) ?_
                      refine lv_goto (tgt := 159) hx hb dX6_locate_149 (by decide) ?_
                      refine lv_istore (lv' := [(9, .int (iz 1)), (8, .int (iz 1)), (7, .int (iz rg)), (6, .int (iz to)), (5, .int (iz (F 26 k))), (4, .int (iz (F 25 k))), (3, .int (iz kk)), (2, .int (iz nz)), (0, .ref mo), (1, .int (iz ask))]) hx hb dX6_locate_159 hl (by decide) rfl (fun ls hl => ?_)
                      have hw9 : lo_W (lo_pp (F 25) (F 26) k, 100000 * F 25 k + to, rg) = [(100000 * F 25 k + F 26 k, 100000 * F 25 k + to)] := lo_W_p (show rg = 1 ∨ 2 ≤ (100000 * F 25 k + to) - (100000 * F 25 k + F 26 k) by omega)
                      have hwn9 : 1 = (((lo_W (lo_pp (F 25) (F 26) k, 100000 * F 25 k + to, rg)).length : Nat) : Int) := by rw [hw9]; rfl
                      refine lv_iload_n hx hb dX6_locate_161 rfl (lv_at hl 9 rfl) ?_
                      refine lv_iload_n hx hb dX6_locate_162 rfl (lv_at hl 7 rfl) ?_
                      refine ki_icmp_lt (tgt := 218) hx hb dX6_locate_163 (by decide) (by omega) (by omega) (by omega) (by omega) (fun c_39 => ?_) (fun c_39 => ?_)
                      · skip
                        refine lv_iload_n hx hb dX6_locate_218 rfl (lv_at hl 7 rfl) ?_
                        refine lv_iload hx hb dX6_locate_219 (lv_at hl 0 rfl) ?_
                        refine ki_iadd hx hb dX6_locate_221 ?_
                        refine lv_istore_n (lv' := [(2, .int (iz (nz + 1))), (9, .int (iz 1)), (8, .int (iz 1)), (7, .int (iz rg)), (6, .int (iz to)), (5, .int (iz (F 26 k))), (4, .int (iz (F 25 k))), (3, .int (iz kk)), (0, .ref mo), (1, .int (iz ask))]) hx hb dX6_locate_222 rfl hl (by decide) rfl (fun ls hl => ?_)
                        refine lv_goto (tgt := 4) hx hb dX6_locate_223 (by decide) ?_
                        exact ih4 (nz + 1) kk J ⟨hBJ, hfJ, by simp [mFd, va_up] at hfdJ ⊢; omega, by omega, by omega, (fun a9 b9 => hfq a9 (by omega)), (by have q9 := lo_O_step hOo (hin2 (by omega)) (show 1 = (((lo_W (lo_pp (F 25) (F 26) k, 100000 * F 25 k + to, rg)).length : Nat) : Int) from hwn9) (fun _ _ => rfl) (fun h8 h9 => absurd h9 (by omega)); exact q9)⟩ (by omega) _ _ hP hD hS ls (lv_sub hl [7, 0, 8, 9] rfl)
                      · skip
                        refine lv_iload_n hx hb dX6_locate_166 rfl (lv_at hl 9 rfl) ?_
                        refine lv_iload_n hx hb dX6_locate_167 rfl (lv_at hl 7 rfl) ?_
                        refine lv_iload hx hb dX6_locate_168 (lv_at hl 0 rfl) ?_
                        refine ki_iadd hx hb dX6_locate_170 ?_
                        refine ki_icmp_ge (tgt := 218) hx hb dX6_locate_171 (by decide) (by omega) (by omega) (by omega) (by omega) (fun c_40 => ?_) (fun c_40 => ?_)
                        · skip
                          refine lv_iload_n hx hb dX6_locate_218 rfl (lv_at hl 7 rfl) ?_
                          refine lv_iload hx hb dX6_locate_219 (lv_at hl 0 rfl) ?_
                          refine ki_iadd hx hb dX6_locate_221 ?_
                          refine lv_istore_n (lv' := [(2, .int (iz (nz + 1))), (9, .int (iz 1)), (8, .int (iz 1)), (7, .int (iz rg)), (6, .int (iz to)), (5, .int (iz (F 26 k))), (4, .int (iz (F 25 k))), (3, .int (iz kk)), (0, .ref mo), (1, .int (iz ask))]) hx hb dX6_locate_222 rfl hl (by decide) rfl (fun ls hl => ?_)
                          refine lv_goto (tgt := 4) hx hb dX6_locate_223 (by decide) ?_
                          exact ih4 (nz + 1) kk J ⟨hBJ, hfJ, by simp [mFd, va_up] at hfdJ ⊢; omega, by omega, by omega, (fun a9 b9 => hfq a9 (by omega)), (by have q9 := lo_O_step hOo (hin2 (by omega)) (show 1 = (((lo_W (lo_pp (F 25) (F 26) k, 100000 * F 25 k + to, rg)).length : Nat) : Int) from hwn9) (fun _ _ => rfl) (fun h8 h9 => absurd h9 (by omega)); exact q9)⟩ (by omega) _ _ hP hD hS ls (lv_sub hl [7, 0, 8, 9] rfl)
                        · skip
                          refine lv_aload_n hx hb dX6_locate_174 rfl (lv_at hl 8 rfl) ?_
                          refine lv_iload hx hb dX6_locate_175 (lv_at hl 5 rfl) ?_
                          refine va_put (D := (dC, dI)) (ci := 6) (v := .int (iz (F 25 k))) (ty := .int) (C := RX6) (T := TX6) (N := 44) hx hb hts kt_X6 tyX6 tyX6_ok nmX6 hown hK hP hD hS 0 rfl rfl 31 (by decide) (kx_word hG kq_09_mput_0 rfl) (fun _ h9 => h9) rfl (by decide +kernel) rfl rfl (Nat.le_of_ble_eq_true rfl) dX6_locate_177 (fun H locs hP hD hS => ?_)
                          have hP : va_P (dC, dI) kxCl (mW mo ma cs (va_up J 31 (F 25 k)) F) H := hP
                          have hD : va_D A (mW mo ma cs (va_up J 31 (F 25 k)) F) := hD
                          refine lv_aload_n hx hb dX6_locate_180 rfl (lv_at hl 8 rfl) ?_
                          refine lv_iload hx hb dX6_locate_181 (lv_at hl 1 rfl) ?_
                          refine ki_if_eq (tgt := 191) hx hb dX6_locate_183 (by decide) (by omega) (by omega) (fun c_41 => ?_) (fun c_41 => ?_)
                          · omega
                          · skip
                            refine lv_iload hx hb dX6_locate_186 (lv_at hl 4 rfl) ?_
                            refine lv_goto (tgt := 197) hx hb dX6_locate_188 (by decide) ?_
                            refine va_put (D := (dC, dI)) (ci := 6) (v := .int (iz (F 26 k))) (ty := .int) (C := RX6) (T := TX6) (N := 44) hx hb hts kt_X6 tyX6 tyX6_ok nmX6 hown hK hP hD hS 0 rfl rfl 32 (by decide) (kx_word hG kq_09_mput_1 rfl) (fun _ h9 => h9) rfl (by decide +kernel) rfl rfl (Nat.le_of_ble_eq_true rfl) dX6_locate_197 (fun H locs hP hD hS => ?_)
                            have hP : va_P (dC, dI) kxCl (mW mo ma cs (va_up (va_up J 31 (F 25 k)) 32 (F 26 k)) F) H := hP
                            have hD : va_D A (mW mo ma cs (va_up (va_up J 31 (F 25 k)) 32 (F 26 k)) F) := hD
                            refine lv_aload_n hx hb dX6_locate_200 rfl (lv_at hl 8 rfl) ?_
                            refine lv_iload hx hb dX6_locate_201 (lv_at hl 1 rfl) ?_
                            refine ki_if_eq (tgt := 211) hx hb dX6_locate_203 (by decide) (by omega) (by omega) (fun c_42 => ?_) (fun c_42 => ?_)
                            · omega
                            · skip
                              refine lv_iload hx hb dX6_locate_206 (lv_at hl 3 rfl) ?_
                              refine lv_goto (tgt := 215) hx hb dX6_locate_208 (by decide) ?_
                              refine va_put (D := (dC, dI)) (ci := 6) (v := .int (iz to)) (ty := .int) (C := RX6) (T := TX6) (N := 44) hx hb hts kt_X6 tyX6 tyX6_ok nmX6 hown hK hP hD hS 0 rfl rfl 33 (by decide) (kx_word hG kq_09_mput_2 rfl) (fun _ h9 => h9) rfl (by decide +kernel) rfl rfl (Nat.le_of_ble_eq_true rfl) dX6_locate_215 (fun H locs hP hD hS => ?_)
                              have hP : va_P (dC, dI) kxCl (mW mo ma cs (va_up (va_up (va_up J 31 (F 25 k)) 32 (F 26 k)) 33 to) F) H := hP
                              have hD : va_D A (mW mo ma cs (va_up (va_up (va_up J 31 (F 25 k)) 32 (F 26 k)) 33 to) F) := hD
                              have hel : (lo_W (lo_pp (F 25) (F 26) k, 100000 * F 25 k + to, rg))[(ask - nz).toNat]? = some (100000 * F 25 k + (F 26 k), 100000 * F 25 k + (to)) := by rw [hw9, show (ask - nz).toNat = 0 by omega]; rfl
                              refine lv_iload_n hx hb dX6_locate_218 rfl (lv_at hl 7 rfl) ?_
                              refine lv_iload hx hb dX6_locate_219 (lv_at hl 0 rfl) ?_
                              refine ki_iadd hx hb dX6_locate_221 ?_
                              refine lv_istore_n (lv' := [(2, .int (iz (nz + 1))), (9, .int (iz 1)), (8, .int (iz 1)), (7, .int (iz rg)), (6, .int (iz to)), (5, .int (iz (F 26 k))), (4, .int (iz (F 25 k))), (3, .int (iz kk)), (0, .ref mo), (1, .int (iz ask))]) hx hb dX6_locate_222 rfl hl (by decide) rfl (fun ls hl => ?_)
                              refine lv_goto (tgt := 4) hx hb dX6_locate_223 (by decide) ?_
                              exact ih4 (nz + 1) kk (va_up (va_up (va_up J 31 (F 25 k)) 32 (F 26 k)) 33 to) ⟨(mB_i (mB_i (mB_i hBJ 31 (by omega) (by omega)) 32 (by omega) (by omega)) 33 (by omega) (by omega)), (mfr.upI (mfr.upI (mfr.upI hfJ (by decide) _) (by decide) _) (by decide) _), by simp [mFd, va_up] at hfdJ ⊢; omega, by omega, by omega, (fun a9 b9 => (show (0 ≤ F 26 k ∧ F 26 k ≤ 99999) ∧ (0 ≤ to ∧ to ≤ 99999) by omega)), (by have q9 := lo_O_step hOo (hin2 (by omega)) (show 1 = (((lo_W (lo_pp (F 25) (F 26) k, 100000 * F 25 k + to, rg)).length : Nat) : Int) from hwn9) (fd' := (100000 * F 25 k + (F 26 k), 100000 * F 25 k + (to))) (fun _ h9 => absurd h9 (by omega)) (fun _ _ => hel); exact q9)⟩ (by omega) _ _ hP hD hS ls (lv_sub hl [7, 0, 8, 9] rfl)
              · skip
                refine lv_aload_n hx hb dX6_locate_58 rfl (lv_at hl 6 rfl) ?_
                refine va_get (D := (dC, dI)) (ci := 6) (v := .ref (ma 26)) (C := RX6) (T := TX6) (N := 44) hx hb hts kt_X6 hown hK hP 0 rfl rfl 26 (by decide) (kx_word hG kq_08_mgather_2 rfl) (fun _ h9 => h9) rfl dX6_locate_59 ?_
                refine lv_iload_n hx hb dX6_locate_62 rfl (lv_at hl 4 rfl) ?_
                refine ki_iald (F := F 26) hx hb hK hP 21 20 rfl rfl (by omega) (by omega) (by decide) dX6_locate_63 ?_
                have hbd_43 := hBJ.2 26 kk
                refine lv_iload hx hb dX6_locate_64 (lv_at hl 1 rfl) ?_
                refine lv_iconst (v := iz 1) hx hb dX6_locate_66 (by decide) ?_
                refine ki_iadd hx hb dX6_locate_67 ?_
                refine ki_icmp_gt (tgt := 122) hx hb dX6_locate_68 (by decide) (by omega) (by omega) (by omega) (by omega) (fun c_44 => ?_) (fun c_44 => ?_)
                · skip
                  have hvk := lo_vx hGv (show 0 ≤ k by omega) (show k < I 29 by omega)
                  have hin2 := lo_N_out hNn (show 0 ≤ k by omega) (show k < I 29 by omega) (show kk ≤ I 29 by omega) (by first | exact Or.inl (show kk = I 29 by omega) | exact Or.inr (show ¬ 100000 * F 25 kk + F 26 kk ≤ 100000 * F 25 k + to + 1 by omega)) (lo_v01 hvk)
                  have hft9 : F 26 k ≤ to := by omega
                  refine lv_iload hx hb dX6_locate_122 (lv_at hl 0 rfl) ?_
                  refine ki_if_ne (tgt := 136) hx hb dX6_locate_124 (by decide) (by omega) (by omega) (fun c_45 => ?_) (fun c_45 => ?_)
                  · skip
                    refine lv_iconst (v := iz 1) hx hb dX6_locate_136 (by decide) ?_
                    refine lv_goto (tgt := 141) hx hb dX6_locate_137 (by decide) ?_
                    refine lv_istore (lv' := [(8, .int (iz 1)), (7, .int (iz rg)), (6, .int (iz to)), (5, .int (iz (F 26 k))), (4, .int (iz (F 25 k))), (3, .int (iz kk)), (2, .int (iz nz)), (0, .ref mo), (1, .int (iz ask))]) hx hb dX6_locate_141 hl (by decide) rfl (fun ls hl => ?_)
                    refine lv_iload hx hb dX6_locate_143 (lv_at hl 0 rfl) ?_
                    refine ki_if_eq (tgt := 152) hx hb dX6_locate_145 (by decide) (by omega) (by omega) (fun c_46 => ?_) (fun c_46 => ?_)
                    · omega
                    · skip
                      refine lv_iconst (v := iz 1) hx hb dX6_locate_148 (by decide) ?_
                      refine lv_goto (tgt := 159) hx hb dX6_locate_149 (by decide) ?_
                      refine lv_istore (lv' := [(9, .int (iz 1)), (8, .int (iz 1)), (7, .int (iz rg)), (6, .int (iz to)), (5, .int (iz (F 26 k))), (4, .int (iz (F 25 k))), (3, .int (iz kk)), (2, .int (iz nz)), (0, .ref mo), (1, .int (iz ask))]) hx hb dX6_locate_159 hl (by decide) rfl (fun ls hl => ?_)
                      have hw9 : lo_W (lo_pp (F 25) (F 26) k, 100000 * F 25 k + to, rg) = [(100000 * F 25 k + F 26 k, 100000 * F 25 k + to)] := lo_W_p (show rg = 1 ∨ 2 ≤ (100000 * F 25 k + to) - (100000 * F 25 k + F 26 k) by omega)
                      have hwn9 : 1 = (((lo_W (lo_pp (F 25) (F 26) k, 100000 * F 25 k + to, rg)).length : Nat) : Int) := by rw [hw9]; rfl
                      refine lv_iload_n hx hb dX6_locate_161 rfl (lv_at hl 9 rfl) ?_
                      refine lv_iload_n hx hb dX6_locate_162 rfl (lv_at hl 7 rfl) ?_
                      refine ki_icmp_lt (tgt := 218) hx hb dX6_locate_163 (by decide) (by omega) (by omega) (by omega) (by omega) (fun c_47 => ?_) (fun c_47 => ?_)
                      · skip
                        refine lv_iload_n hx hb dX6_locate_218 rfl (lv_at hl 7 rfl) ?_
                        refine lv_iload hx hb dX6_locate_219 (lv_at hl 0 rfl) ?_
                        refine ki_iadd hx hb dX6_locate_221 ?_
                        refine lv_istore_n (lv' := [(2, .int (iz (nz + 1))), (9, .int (iz 1)), (8, .int (iz 1)), (7, .int (iz rg)), (6, .int (iz to)), (5, .int (iz (F 26 k))), (4, .int (iz (F 25 k))), (3, .int (iz kk)), (0, .ref mo), (1, .int (iz ask))]) hx hb dX6_locate_222 rfl hl (by decide) rfl (fun ls hl => ?_)
                        refine lv_goto (tgt := 4) hx hb dX6_locate_223 (by decide) ?_
                        exact ih4 (nz + 1) kk J ⟨hBJ, hfJ, by simp [mFd, va_up] at hfdJ ⊢; omega, by omega, by omega, (fun a9 b9 => hfq a9 (by omega)), (by have q9 := lo_O_step hOo (hin2 (by omega)) (show 1 = (((lo_W (lo_pp (F 25) (F 26) k, 100000 * F 25 k + to, rg)).length : Nat) : Int) from hwn9) (fun _ _ => rfl) (fun h8 h9 => absurd h9 (by omega)); exact q9)⟩ (by omega) _ _ hP hD hS ls (lv_sub hl [7, 0, 8, 9] rfl)
                      · skip
                        refine lv_iload_n hx hb dX6_locate_166 rfl (lv_at hl 9 rfl) ?_
                        refine lv_iload_n hx hb dX6_locate_167 rfl (lv_at hl 7 rfl) ?_
                        refine lv_iload hx hb dX6_locate_168 (lv_at hl 0 rfl) ?_
                        refine ki_iadd hx hb dX6_locate_170 ?_
                        refine ki_icmp_ge (tgt := 218) hx hb dX6_locate_171 (by decide) (by omega) (by omega) (by omega) (by omega) (fun c_48 => ?_) (fun c_48 => ?_)
                        · skip
                          refine lv_iload_n hx hb dX6_locate_218 rfl (lv_at hl 7 rfl) ?_
                          refine lv_iload hx hb dX6_locate_219 (lv_at hl 0 rfl) ?_
                          refine ki_iadd hx hb dX6_locate_221 ?_
                          refine lv_istore_n (lv' := [(2, .int (iz (nz + 1))), (9, .int (iz 1)), (8, .int (iz 1)), (7, .int (iz rg)), (6, .int (iz to)), (5, .int (iz (F 26 k))), (4, .int (iz (F 25 k))), (3, .int (iz kk)), (0, .ref mo), (1, .int (iz ask))]) hx hb dX6_locate_222 rfl hl (by decide) rfl (fun ls hl => ?_)
                          refine lv_goto (tgt := 4) hx hb dX6_locate_223 (by decide) ?_
                          exact ih4 (nz + 1) kk J ⟨hBJ, hfJ, by simp [mFd, va_up] at hfdJ ⊢; omega, by omega, by omega, (fun a9 b9 => hfq a9 (by omega)), (by have q9 := lo_O_step hOo (hin2 (by omega)) (show 1 = (((lo_W (lo_pp (F 25) (F 26) k, 100000 * F 25 k + to, rg)).length : Nat) : Int) from hwn9) (fun _ _ => rfl) (fun h8 h9 => absurd h9 (by omega)); exact q9)⟩ (by omega) _ _ hP hD hS ls (lv_sub hl [7, 0, 8, 9] rfl)
                        · skip
                          refine lv_aload_n hx hb dX6_locate_174 rfl (lv_at hl 8 rfl) ?_
                          refine lv_iload hx hb dX6_locate_175 (lv_at hl 5 rfl) ?_
                          refine va_put (D := (dC, dI)) (ci := 6) (v := .int (iz (F 25 k))) (ty := .int) (C := RX6) (T := TX6) (N := 44) hx hb hts kt_X6 tyX6 tyX6_ok nmX6 hown hK hP hD hS 0 rfl rfl 31 (by decide) (kx_word hG kq_09_mput_0 rfl) (fun _ h9 => h9) rfl (by decide +kernel) rfl rfl (Nat.le_of_ble_eq_true rfl) dX6_locate_177 (fun H locs hP hD hS => ?_)
                          have hP : va_P (dC, dI) kxCl (mW mo ma cs (va_up J 31 (F 25 k)) F) H := hP
                          have hD : va_D A (mW mo ma cs (va_up J 31 (F 25 k)) F) := hD
                          refine lv_aload_n hx hb dX6_locate_180 rfl (lv_at hl 8 rfl) ?_
                          refine lv_iload hx hb dX6_locate_181 (lv_at hl 1 rfl) ?_
                          refine ki_if_eq (tgt := 191) hx hb dX6_locate_183 (by decide) (by omega) (by omega) (fun c_49 => ?_) (fun c_49 => ?_)
                          · omega
                          · skip
                            refine lv_iload hx hb dX6_locate_186 (lv_at hl 4 rfl) ?_
                            refine lv_goto (tgt := 197) hx hb dX6_locate_188 (by decide) ?_
                            refine va_put (D := (dC, dI)) (ci := 6) (v := .int (iz (F 26 k))) (ty := .int) (C := RX6) (T := TX6) (N := 44) hx hb hts kt_X6 tyX6 tyX6_ok nmX6 hown hK hP hD hS 0 rfl rfl 32 (by decide) (kx_word hG kq_09_mput_1 rfl) (fun _ h9 => h9) rfl (by decide +kernel) rfl rfl (Nat.le_of_ble_eq_true rfl) dX6_locate_197 (fun H locs hP hD hS => ?_)
                            have hP : va_P (dC, dI) kxCl (mW mo ma cs (va_up (va_up J 31 (F 25 k)) 32 (F 26 k)) F) H := hP
                            have hD : va_D A (mW mo ma cs (va_up (va_up J 31 (F 25 k)) 32 (F 26 k)) F) := hD
                            refine lv_aload_n hx hb dX6_locate_200 rfl (lv_at hl 8 rfl) ?_
                            refine lv_iload hx hb dX6_locate_201 (lv_at hl 1 rfl) ?_
                            refine ki_if_eq (tgt := 211) hx hb dX6_locate_203 (by decide) (by omega) (by omega) (fun c_50 => ?_) (fun c_50 => ?_)
                            · omega
                            · skip
                              refine lv_iload hx hb dX6_locate_206 (lv_at hl 3 rfl) ?_
                              refine lv_goto (tgt := 215) hx hb dX6_locate_208 (by decide) ?_
                              refine va_put (D := (dC, dI)) (ci := 6) (v := .int (iz to)) (ty := .int) (C := RX6) (T := TX6) (N := 44) hx hb hts kt_X6 tyX6 tyX6_ok nmX6 hown hK hP hD hS 0 rfl rfl 33 (by decide) (kx_word hG kq_09_mput_2 rfl) (fun _ h9 => h9) rfl (by decide +kernel) rfl rfl (Nat.le_of_ble_eq_true rfl) dX6_locate_215 (fun H locs hP hD hS => ?_)
                              have hP : va_P (dC, dI) kxCl (mW mo ma cs (va_up (va_up (va_up J 31 (F 25 k)) 32 (F 26 k)) 33 to) F) H := hP
                              have hD : va_D A (mW mo ma cs (va_up (va_up (va_up J 31 (F 25 k)) 32 (F 26 k)) 33 to) F) := hD
                              have hel : (lo_W (lo_pp (F 25) (F 26) k, 100000 * F 25 k + to, rg))[(ask - nz).toNat]? = some (100000 * F 25 k + (F 26 k), 100000 * F 25 k + (to)) := by rw [hw9, show (ask - nz).toNat = 0 by omega]; rfl
                              refine lv_iload_n hx hb dX6_locate_218 rfl (lv_at hl 7 rfl) ?_
                              refine lv_iload hx hb dX6_locate_219 (lv_at hl 0 rfl) ?_
                              refine ki_iadd hx hb dX6_locate_221 ?_
                              refine lv_istore_n (lv' := [(2, .int (iz (nz + 1))), (9, .int (iz 1)), (8, .int (iz 1)), (7, .int (iz rg)), (6, .int (iz to)), (5, .int (iz (F 26 k))), (4, .int (iz (F 25 k))), (3, .int (iz kk)), (0, .ref mo), (1, .int (iz ask))]) hx hb dX6_locate_222 rfl hl (by decide) rfl (fun ls hl => ?_)
                              refine lv_goto (tgt := 4) hx hb dX6_locate_223 (by decide) ?_
                              exact ih4 (nz + 1) kk (va_up (va_up (va_up J 31 (F 25 k)) 32 (F 26 k)) 33 to) ⟨(mB_i (mB_i (mB_i hBJ 31 (by omega) (by omega)) 32 (by omega) (by omega)) 33 (by omega) (by omega)), (mfr.upI (mfr.upI (mfr.upI hfJ (by decide) _) (by decide) _) (by decide) _), by simp [mFd, va_up] at hfdJ ⊢; omega, by omega, by omega, (fun a9 b9 => (show (0 ≤ F 26 k ∧ F 26 k ≤ 99999) ∧ (0 ≤ to ∧ to ≤ 99999) by omega)), (by have q9 := lo_O_step hOo (hin2 (by omega)) (show 1 = (((lo_W (lo_pp (F 25) (F 26) k, 100000 * F 25 k + to, rg)).length : Nat) : Int) from hwn9) (fd' := (100000 * F 25 k + (F 26 k), 100000 * F 25 k + (to))) (fun _ h9 => absurd h9 (by omega)) (fun _ _ => hel); exact q9)⟩ (by omega) _ _ hP hD hS ls (lv_sub hl [7, 0, 8, 9] rfl)
                  · skip
                    refine lv_iload hx hb dX6_locate_127 (lv_at hl 1 rfl) ?_
                    refine lv_iload hx hb dX6_locate_129 (lv_at hl 2 rfl) ?_
                    refine ki_isub hx hb dX6_locate_131 ?_
                    refine lv_iconst (v := iz 1) hx hb dX6_locate_132 (by decide) ?_
                    refine ki_icmp_le (tgt := 140) hx hb dX6_locate_133 (by decide) (by omega) (by omega) (by omega) (by omega) (fun c_51 => ?_) (fun c_51 => ?_)
                    · skip
                      refine lv_iconst (v := iz 0) hx hb dX6_locate_140 (by decide) ?_
                      refine lv_istore (lv' := [(8, .int (iz 0)), (7, .int (iz rg)), (6, .int (iz to)), (5, .int (iz (F 26 k))), (4, .int (iz (F 25 k))), (3, .int (iz kk)), (2, .int (iz nz)), (0, .ref mo), (1, .int (iz ask))]) hx hb dX6_locate_141 hl (by decide) rfl (fun ls hl => ?_)
                      refine lv_iload hx hb dX6_locate_143 (lv_at hl 0 rfl) ?_
                      refine ki_if_eq (tgt := 152) hx hb dX6_locate_145 (by decide) (by omega) (by omega) (fun c_52 => ?_) (fun c_52 => ?_)
                      · skip
                        refine lv_iload hx hb dX6_locate_152 (lv_at hl 2 rfl) ?_
                        refine lv_iload hx hb dX6_locate_154 (lv_at hl 3 rfl) ?_
                        refine ki_isub hx hb dX6_locate_156 ?_
                        refine lv_iconst (v := iz 1) hx hb dX6_locate_157 (by decide) ?_
                        refine ki_iadd hx hb dX6_locate_158 ?_
                        refine lv_istore (lv' := [(9, .int (iz ((to - (F 26 k)) + 1))), (8, .int (iz 0)), (7, .int (iz rg)), (6, .int (iz to)), (5, .int (iz (F 26 k))), (4, .int (iz (F 25 k))), (3, .int (iz kk)), (2, .int (iz nz)), (0, .ref mo), (1, .int (iz ask))]) hx hb dX6_locate_159 hl (by decide) rfl (fun ls hl => ?_)
                        have hno : ¬ (rg = 1 ∨ 2 ≤ (100000 * F 25 k + to) - (100000 * F 25 k + F 26 k)) := by omega
                        have hw1 : to = F 26 k → lo_W (lo_pp (F 25) (F 26) k, 100000 * F 25 k + to, rg) = [(100000 * F 25 k + F 26 k, 100000 * F 25 k + F 26 k)] := fun c9 => lo_W_1 hno (show 100000 * F 25 k + to = 100000 * F 25 k + F 26 k by omega)
                        have hw2 : ¬ to = F 26 k → lo_W (lo_pp (F 25) (F 26) k, 100000 * F 25 k + to, rg) = [(100000 * F 25 k + F 26 k, 100000 * F 25 k + F 26 k), (100000 * F 25 k + to, 100000 * F 25 k + to)] := fun c9 => lo_W_2 hno (show ¬ 100000 * F 25 k + to = 100000 * F 25 k + F 26 k by omega)
                        have hwn9 : (to - (F 26 k)) + 1 = (((lo_W (lo_pp (F 25) (F 26) k, 100000 * F 25 k + to, rg)).length : Nat) : Int) := by by_cases c9 : to = F 26 k; (rw [hw1 c9]; show to - F 26 k + 1 = 1; omega); (rw [hw2 c9]; show to - F 26 k + 1 = 2; omega)
                        replace hno := fun (_ : Unit) => hno
                        refine lv_iload_n hx hb dX6_locate_161 rfl (lv_at hl 9 rfl) ?_
                        refine lv_iload_n hx hb dX6_locate_162 rfl (lv_at hl 7 rfl) ?_
                        refine ki_icmp_lt (tgt := 218) hx hb dX6_locate_163 (by decide) (by omega) (by omega) (by omega) (by omega) (fun c_53 => ?_) (fun c_53 => ?_)
                        · skip
                          refine lv_iload_n hx hb dX6_locate_218 rfl (lv_at hl 7 rfl) ?_
                          refine lv_iload hx hb dX6_locate_219 (lv_at hl 0 rfl) ?_
                          refine ki_iadd hx hb dX6_locate_221 ?_
                          refine lv_istore_n (lv' := [(2, .int (iz (nz + ((to - (F 26 k)) + 1)))), (9, .int (iz ((to - (F 26 k)) + 1))), (8, .int (iz 0)), (7, .int (iz rg)), (6, .int (iz to)), (5, .int (iz (F 26 k))), (4, .int (iz (F 25 k))), (3, .int (iz kk)), (0, .ref mo), (1, .int (iz ask))]) hx hb dX6_locate_222 rfl hl (by decide) rfl (fun ls hl => ?_)
                          refine lv_goto (tgt := 4) hx hb dX6_locate_223 (by decide) ?_
                          exact ih4 (nz + ((to - (F 26 k)) + 1)) kk J ⟨hBJ, hfJ, by simp [mFd, va_up] at hfdJ ⊢; omega, by omega, by omega, (fun a9 b9 => hfq a9 (by omega)), (by have q9 := lo_O_step hOo (hin2 (by omega)) (show (to - (F 26 k)) + 1 = (((lo_W (lo_pp (F 25) (F 26) k, 100000 * F 25 k + to, rg)).length : Nat) : Int) from hwn9) (fun _ _ => rfl) (fun h8 h9 => absurd h9 (by omega)); exact q9)⟩ (by omega) _ _ hP hD hS ls (lv_sub hl [7, 0, 8, 9] rfl)
                        · skip
                          refine lv_iload_n hx hb dX6_locate_166 rfl (lv_at hl 9 rfl) ?_
                          refine lv_iload_n hx hb dX6_locate_167 rfl (lv_at hl 7 rfl) ?_
                          refine lv_iload hx hb dX6_locate_168 (lv_at hl 0 rfl) ?_
                          refine ki_iadd hx hb dX6_locate_170 ?_
                          refine ki_icmp_ge (tgt := 218) hx hb dX6_locate_171 (by decide) (by omega) (by omega) (by omega) (by omega) (fun c_54 => ?_) (fun c_54 => ?_)
                          · skip
                            refine lv_iload_n hx hb dX6_locate_218 rfl (lv_at hl 7 rfl) ?_
                            refine lv_iload hx hb dX6_locate_219 (lv_at hl 0 rfl) ?_
                            refine ki_iadd hx hb dX6_locate_221 ?_
                            refine lv_istore_n (lv' := [(2, .int (iz (nz + ((to - (F 26 k)) + 1)))), (9, .int (iz ((to - (F 26 k)) + 1))), (8, .int (iz 0)), (7, .int (iz rg)), (6, .int (iz to)), (5, .int (iz (F 26 k))), (4, .int (iz (F 25 k))), (3, .int (iz kk)), (0, .ref mo), (1, .int (iz ask))]) hx hb dX6_locate_222 rfl hl (by decide) rfl (fun ls hl => ?_)
                            refine lv_goto (tgt := 4) hx hb dX6_locate_223 (by decide) ?_
                            exact ih4 (nz + ((to - (F 26 k)) + 1)) kk J ⟨hBJ, hfJ, by simp [mFd, va_up] at hfdJ ⊢; omega, by omega, by omega, (fun a9 b9 => hfq a9 (by omega)), (by have q9 := lo_O_step hOo (hin2 (by omega)) (show (to - (F 26 k)) + 1 = (((lo_W (lo_pp (F 25) (F 26) k, 100000 * F 25 k + to, rg)).length : Nat) : Int) from hwn9) (fun _ _ => rfl) (fun h8 h9 => absurd h9 (by omega)); exact q9)⟩ (by omega) _ _ hP hD hS ls (lv_sub hl [7, 0, 8, 9] rfl)
                          · skip
                            refine lv_aload_n hx hb dX6_locate_174 rfl (lv_at hl 8 rfl) ?_
                            refine lv_iload hx hb dX6_locate_175 (lv_at hl 5 rfl) ?_
                            refine va_put (D := (dC, dI)) (ci := 6) (v := .int (iz (F 25 k))) (ty := .int) (C := RX6) (T := TX6) (N := 44) hx hb hts kt_X6 tyX6 tyX6_ok nmX6 hown hK hP hD hS 0 rfl rfl 31 (by decide) (kx_word hG kq_09_mput_0 rfl) (fun _ h9 => h9) rfl (by decide +kernel) rfl rfl (Nat.le_of_ble_eq_true rfl) dX6_locate_177 (fun H locs hP hD hS => ?_)
                            have hP : va_P (dC, dI) kxCl (mW mo ma cs (va_up J 31 (F 25 k)) F) H := hP
                            have hD : va_D A (mW mo ma cs (va_up J 31 (F 25 k)) F) := hD
                            refine lv_aload_n hx hb dX6_locate_180 rfl (lv_at hl 8 rfl) ?_
                            refine lv_iload hx hb dX6_locate_181 (lv_at hl 1 rfl) ?_
                            refine ki_if_eq (tgt := 191) hx hb dX6_locate_183 (by decide) (by omega) (by omega) (fun c_55 => ?_) (fun c_55 => ?_)
                            · skip
                              refine lv_iload hx hb dX6_locate_191 (lv_at hl 4 rfl) ?_
                              refine lv_iload_n hx hb dX6_locate_193 rfl (lv_at hl 9 rfl) ?_
                              refine ki_iadd hx hb dX6_locate_194 ?_
                              refine lv_iload_n hx hb dX6_locate_195 rfl (lv_at hl 7 rfl) ?_
                              refine ki_isub hx hb dX6_locate_196 ?_
                              refine va_put (D := (dC, dI)) (ci := 6) (v := .int (iz (((F 26 k) + ask) - nz))) (ty := .int) (C := RX6) (T := TX6) (N := 44) hx hb hts kt_X6 tyX6 tyX6_ok nmX6 hown hK hP hD hS 0 rfl rfl 32 (by decide) (kx_word hG kq_09_mput_1 rfl) (fun _ h9 => h9) rfl (by decide +kernel) rfl rfl (Nat.le_of_ble_eq_true rfl) dX6_locate_197 (fun H locs hP hD hS => ?_)
                              have hP : va_P (dC, dI) kxCl (mW mo ma cs (va_up (va_up J 31 (F 25 k)) 32 (((F 26 k) + ask) - nz)) F) H := hP
                              have hD : va_D A (mW mo ma cs (va_up (va_up J 31 (F 25 k)) 32 (((F 26 k) + ask) - nz)) F) := hD
                              refine lv_aload_n hx hb dX6_locate_200 rfl (lv_at hl 8 rfl) ?_
                              refine lv_iload hx hb dX6_locate_201 (lv_at hl 1 rfl) ?_
                              refine ki_if_eq (tgt := 211) hx hb dX6_locate_203 (by decide) (by omega) (by omega) (fun c_56 => ?_) (fun c_56 => ?_)
                              · skip
                                refine lv_aload_n hx hb dX6_locate_211 rfl (lv_at hl 8 rfl) ?_
                                refine va_get (D := (dC, dI)) (ci := 6) (v := .int (iz (((F 26 k) + ask) - nz))) (C := RX6) (T := TX6) (N := 44) hx hb hts kt_X6 hown hK hP 0 rfl rfl 32 (by decide) (kx_word hG kq_09_mput_1 rfl) (fun _ h9 => h9) rfl dX6_locate_212 ?_
                                refine va_put (D := (dC, dI)) (ci := 6) (v := .int (iz (((F 26 k) + ask) - nz))) (ty := .int) (C := RX6) (T := TX6) (N := 44) hx hb hts kt_X6 tyX6 tyX6_ok nmX6 hown hK hP hD hS 0 rfl rfl 33 (by decide) (kx_word hG kq_09_mput_2 rfl) (fun _ h9 => h9) rfl (by decide +kernel) rfl rfl (Nat.le_of_ble_eq_true rfl) dX6_locate_215 (fun H locs hP hD hS => ?_)
                                have hP : va_P (dC, dI) kxCl (mW mo ma cs (va_up (va_up (va_up J 31 (F 25 k)) 32 (((F 26 k) + ask) - nz)) 33 (((F 26 k) + ask) - nz)) F) H := hP
                                have hD : va_D A (mW mo ma cs (va_up (va_up (va_up J 31 (F 25 k)) 32 (((F 26 k) + ask) - nz)) 33 (((F 26 k) + ask) - nz)) F) := hD
                                have hel : (lo_W (lo_pp (F 25) (F 26) k, 100000 * F 25 k + to, rg))[(ask - nz).toNat]? = some (100000 * F 25 k + (((F 26 k) + ask) - nz), 100000 * F 25 k + (((F 26 k) + ask) - nz)) := by by_cases c9 : to = F 26 k; (rw [hw1 c9, show (ask - nz).toNat = 0 by omega]; show some (100000 * F 25 k + F 26 k, 100000 * F 25 k + F 26 k) = some (100000 * F 25 k + (((F 26 k) + ask) - nz), 100000 * F 25 k + (((F 26 k) + ask) - nz)); rw [show ((F 26 k) + ask) - nz = F 26 k by omega]); (rw [hw2 c9]; by_cases d9 : ask = nz; (rw [show (ask - nz).toNat = 0 by omega]; show some (100000 * F 25 k + F 26 k, 100000 * F 25 k + F 26 k) = some (100000 * F 25 k + (((F 26 k) + ask) - nz), 100000 * F 25 k + (((F 26 k) + ask) - nz)); rw [show ((F 26 k) + ask) - nz = F 26 k by omega]); (rw [show (ask - nz).toNat = 1 by omega]; show some (100000 * F 25 k + to, 100000 * F 25 k + to) = some (100000 * F 25 k + (((F 26 k) + ask) - nz), 100000 * F 25 k + (((F 26 k) + ask) - nz)); rw [show ((F 26 k) + ask) - nz = to by omega]))
                                refine lv_iload_n hx hb dX6_locate_218 rfl (lv_at hl 7 rfl) ?_
                                refine lv_iload hx hb dX6_locate_219 (lv_at hl 0 rfl) ?_
                                refine ki_iadd hx hb dX6_locate_221 ?_
                                refine lv_istore_n (lv' := [(2, .int (iz (nz + ((to - (F 26 k)) + 1)))), (9, .int (iz ((to - (F 26 k)) + 1))), (8, .int (iz 0)), (7, .int (iz rg)), (6, .int (iz to)), (5, .int (iz (F 26 k))), (4, .int (iz (F 25 k))), (3, .int (iz kk)), (0, .ref mo), (1, .int (iz ask))]) hx hb dX6_locate_222 rfl hl (by decide) rfl (fun ls hl => ?_)
                                refine lv_goto (tgt := 4) hx hb dX6_locate_223 (by decide) ?_
                                exact ih4 (nz + ((to - (F 26 k)) + 1)) kk (va_up (va_up (va_up J 31 (F 25 k)) 32 (((F 26 k) + ask) - nz)) 33 (((F 26 k) + ask) - nz)) ⟨(mB_i (mB_i (mB_i hBJ 31 (by omega) (by omega)) 32 (by omega) (by omega)) 33 (by omega) (by omega)), (mfr.upI (mfr.upI (mfr.upI hfJ (by decide) _) (by decide) _) (by decide) _), by simp [mFd, va_up] at hfdJ ⊢; omega, by omega, by omega, (fun a9 b9 => (show (0 ≤ ((F 26 k) + ask) - nz ∧ ((F 26 k) + ask) - nz ≤ 99999) ∧ (0 ≤ ((F 26 k) + ask) - nz ∧ ((F 26 k) + ask) - nz ≤ 99999) by omega)), (by have q9 := lo_O_step hOo (hin2 (by omega)) (show (to - (F 26 k)) + 1 = (((lo_W (lo_pp (F 25) (F 26) k, 100000 * F 25 k + to, rg)).length : Nat) : Int) from hwn9) (fd' := (100000 * F 25 k + (((F 26 k) + ask) - nz), 100000 * F 25 k + (((F 26 k) + ask) - nz))) (fun _ h9 => absurd h9 (by omega)) (fun _ _ => hel); exact q9)⟩ (by omega) _ _ hP hD hS ls (lv_sub hl [7, 0, 8, 9] rfl)
                              · omega
                            · omega
                      · omega
                    · skip
                      refine lv_iconst (v := iz 1) hx hb dX6_locate_136 (by decide) ?_
                      refine lv_goto (tgt := 141) hx hb dX6_locate_137 (by decide) ?_
                      refine lv_istore (lv' := [(8, .int (iz 1)), (7, .int (iz rg)), (6, .int (iz to)), (5, .int (iz (F 26 k))), (4, .int (iz (F 25 k))), (3, .int (iz kk)), (2, .int (iz nz)), (0, .ref mo), (1, .int (iz ask))]) hx hb dX6_locate_141 hl (by decide) rfl (fun ls hl => ?_)
                      refine lv_iload hx hb dX6_locate_143 (lv_at hl 0 rfl) ?_
                      refine ki_if_eq (tgt := 152) hx hb dX6_locate_145 (by decide) (by omega) (by omega) (fun c_57 => ?_) (fun c_57 => ?_)
                      · omega
                      · skip
                        refine lv_iconst (v := iz 1) hx hb dX6_locate_148 (by decide) ?_
                        refine lv_goto (tgt := 159) hx hb dX6_locate_149 (by decide) ?_
                        refine lv_istore (lv' := [(9, .int (iz 1)), (8, .int (iz 1)), (7, .int (iz rg)), (6, .int (iz to)), (5, .int (iz (F 26 k))), (4, .int (iz (F 25 k))), (3, .int (iz kk)), (2, .int (iz nz)), (0, .ref mo), (1, .int (iz ask))]) hx hb dX6_locate_159 hl (by decide) rfl (fun ls hl => ?_)
                        have hw9 : lo_W (lo_pp (F 25) (F 26) k, 100000 * F 25 k + to, rg) = [(100000 * F 25 k + F 26 k, 100000 * F 25 k + to)] := lo_W_p (show rg = 1 ∨ 2 ≤ (100000 * F 25 k + to) - (100000 * F 25 k + F 26 k) by omega)
                        have hwn9 : 1 = (((lo_W (lo_pp (F 25) (F 26) k, 100000 * F 25 k + to, rg)).length : Nat) : Int) := by rw [hw9]; rfl
                        refine lv_iload_n hx hb dX6_locate_161 rfl (lv_at hl 9 rfl) ?_
                        refine lv_iload_n hx hb dX6_locate_162 rfl (lv_at hl 7 rfl) ?_
                        refine ki_icmp_lt (tgt := 218) hx hb dX6_locate_163 (by decide) (by omega) (by omega) (by omega) (by omega) (fun c_58 => ?_) (fun c_58 => ?_)
                        · skip
                          refine lv_iload_n hx hb dX6_locate_218 rfl (lv_at hl 7 rfl) ?_
                          refine lv_iload hx hb dX6_locate_219 (lv_at hl 0 rfl) ?_
                          refine ki_iadd hx hb dX6_locate_221 ?_
                          refine lv_istore_n (lv' := [(2, .int (iz (nz + 1))), (9, .int (iz 1)), (8, .int (iz 1)), (7, .int (iz rg)), (6, .int (iz to)), (5, .int (iz (F 26 k))), (4, .int (iz (F 25 k))), (3, .int (iz kk)), (0, .ref mo), (1, .int (iz ask))]) hx hb dX6_locate_222 rfl hl (by decide) rfl (fun ls hl => ?_)
                          refine lv_goto (tgt := 4) hx hb dX6_locate_223 (by decide) ?_
                          exact ih4 (nz + 1) kk J ⟨hBJ, hfJ, by simp [mFd, va_up] at hfdJ ⊢; omega, by omega, by omega, (fun a9 b9 => hfq a9 (by omega)), (by have q9 := lo_O_step hOo (hin2 (by omega)) (show 1 = (((lo_W (lo_pp (F 25) (F 26) k, 100000 * F 25 k + to, rg)).length : Nat) : Int) from hwn9) (fun _ _ => rfl) (fun h8 h9 => absurd h9 (by omega)); exact q9)⟩ (by omega) _ _ hP hD hS ls (lv_sub hl [7, 0, 8, 9] rfl)
                        · skip
                          refine lv_iload_n hx hb dX6_locate_166 rfl (lv_at hl 9 rfl) ?_
                          refine lv_iload_n hx hb dX6_locate_167 rfl (lv_at hl 7 rfl) ?_
                          refine lv_iload hx hb dX6_locate_168 (lv_at hl 0 rfl) ?_
                          refine ki_iadd hx hb dX6_locate_170 ?_
                          refine ki_icmp_ge (tgt := 218) hx hb dX6_locate_171 (by decide) (by omega) (by omega) (by omega) (by omega) (fun c_59 => ?_) (fun c_59 => ?_)
                          · skip
                            refine lv_iload_n hx hb dX6_locate_218 rfl (lv_at hl 7 rfl) ?_
                            refine lv_iload hx hb dX6_locate_219 (lv_at hl 0 rfl) ?_
                            refine ki_iadd hx hb dX6_locate_221 ?_
                            refine lv_istore_n (lv' := [(2, .int (iz (nz + 1))), (9, .int (iz 1)), (8, .int (iz 1)), (7, .int (iz rg)), (6, .int (iz to)), (5, .int (iz (F 26 k))), (4, .int (iz (F 25 k))), (3, .int (iz kk)), (0, .ref mo), (1, .int (iz ask))]) hx hb dX6_locate_222 rfl hl (by decide) rfl (fun ls hl => ?_)
                            refine lv_goto (tgt := 4) hx hb dX6_locate_223 (by decide) ?_
                            exact ih4 (nz + 1) kk J ⟨hBJ, hfJ, by simp [mFd, va_up] at hfdJ ⊢; omega, by omega, by omega, (fun a9 b9 => hfq a9 (by omega)), (by have q9 := lo_O_step hOo (hin2 (by omega)) (show 1 = (((lo_W (lo_pp (F 25) (F 26) k, 100000 * F 25 k + to, rg)).length : Nat) : Int) from hwn9) (fun _ _ => rfl) (fun h8 h9 => absurd h9 (by omega)); exact q9)⟩ (by omega) _ _ hP hD hS ls (lv_sub hl [7, 0, 8, 9] rfl)
                          · skip
                            refine lv_aload_n hx hb dX6_locate_174 rfl (lv_at hl 8 rfl) ?_
                            refine lv_iload hx hb dX6_locate_175 (lv_at hl 5 rfl) ?_
                            refine va_put (D := (dC, dI)) (ci := 6) (v := .int (iz (F 25 k))) (ty := .int) (C := RX6) (T := TX6) (N := 44) hx hb hts kt_X6 tyX6 tyX6_ok nmX6 hown hK hP hD hS 0 rfl rfl 31 (by decide) (kx_word hG kq_09_mput_0 rfl) (fun _ h9 => h9) rfl (by decide +kernel) rfl rfl (Nat.le_of_ble_eq_true rfl) dX6_locate_177 (fun H locs hP hD hS => ?_)
                            have hP : va_P (dC, dI) kxCl (mW mo ma cs (va_up J 31 (F 25 k)) F) H := hP
                            have hD : va_D A (mW mo ma cs (va_up J 31 (F 25 k)) F) := hD
                            refine lv_aload_n hx hb dX6_locate_180 rfl (lv_at hl 8 rfl) ?_
                            refine lv_iload hx hb dX6_locate_181 (lv_at hl 1 rfl) ?_
                            refine ki_if_eq (tgt := 191) hx hb dX6_locate_183 (by decide) (by omega) (by omega) (fun c_60 => ?_) (fun c_60 => ?_)
                            · omega
                            · skip
                              refine lv_iload hx hb dX6_locate_186 (lv_at hl 4 rfl) ?_
                              refine lv_goto (tgt := 197) hx hb dX6_locate_188 (by decide) ?_
                              refine va_put (D := (dC, dI)) (ci := 6) (v := .int (iz (F 26 k))) (ty := .int) (C := RX6) (T := TX6) (N := 44) hx hb hts kt_X6 tyX6 tyX6_ok nmX6 hown hK hP hD hS 0 rfl rfl 32 (by decide) (kx_word hG kq_09_mput_1 rfl) (fun _ h9 => h9) rfl (by decide +kernel) rfl rfl (Nat.le_of_ble_eq_true rfl) dX6_locate_197 (fun H locs hP hD hS => ?_)
                              have hP : va_P (dC, dI) kxCl (mW mo ma cs (va_up (va_up J 31 (F 25 k)) 32 (F 26 k)) F) H := hP
                              have hD : va_D A (mW mo ma cs (va_up (va_up J 31 (F 25 k)) 32 (F 26 k)) F) := hD
                              refine lv_aload_n hx hb dX6_locate_200 rfl (lv_at hl 8 rfl) ?_
                              refine lv_iload hx hb dX6_locate_201 (lv_at hl 1 rfl) ?_
                              refine ki_if_eq (tgt := 211) hx hb dX6_locate_203 (by decide) (by omega) (by omega) (fun c_61 => ?_) (fun c_61 => ?_)
                              · omega
                              · skip
                                refine lv_iload hx hb dX6_locate_206 (lv_at hl 3 rfl) ?_
                                refine lv_goto (tgt := 215) hx hb dX6_locate_208 (by decide) ?_
                                refine va_put (D := (dC, dI)) (ci := 6) (v := .int (iz to)) (ty := .int) (C := RX6) (T := TX6) (N := 44) hx hb hts kt_X6 tyX6 tyX6_ok nmX6 hown hK hP hD hS 0 rfl rfl 33 (by decide) (kx_word hG kq_09_mput_2 rfl) (fun _ h9 => h9) rfl (by decide +kernel) rfl rfl (Nat.le_of_ble_eq_true rfl) dX6_locate_215 (fun H locs hP hD hS => ?_)
                                have hP : va_P (dC, dI) kxCl (mW mo ma cs (va_up (va_up (va_up J 31 (F 25 k)) 32 (F 26 k)) 33 to) F) H := hP
                                have hD : va_D A (mW mo ma cs (va_up (va_up (va_up J 31 (F 25 k)) 32 (F 26 k)) 33 to) F) := hD
                                have hel : (lo_W (lo_pp (F 25) (F 26) k, 100000 * F 25 k + to, rg))[(ask - nz).toNat]? = some (100000 * F 25 k + (F 26 k), 100000 * F 25 k + (to)) := by rw [hw9, show (ask - nz).toNat = 0 by omega]; rfl
                                refine lv_iload_n hx hb dX6_locate_218 rfl (lv_at hl 7 rfl) ?_
                                refine lv_iload hx hb dX6_locate_219 (lv_at hl 0 rfl) ?_
                                refine ki_iadd hx hb dX6_locate_221 ?_
                                refine lv_istore_n (lv' := [(2, .int (iz (nz + 1))), (9, .int (iz 1)), (8, .int (iz 1)), (7, .int (iz rg)), (6, .int (iz to)), (5, .int (iz (F 26 k))), (4, .int (iz (F 25 k))), (3, .int (iz kk)), (0, .ref mo), (1, .int (iz ask))]) hx hb dX6_locate_222 rfl hl (by decide) rfl (fun ls hl => ?_)
                                refine lv_goto (tgt := 4) hx hb dX6_locate_223 (by decide) ?_
                                exact ih4 (nz + 1) kk (va_up (va_up (va_up J 31 (F 25 k)) 32 (F 26 k)) 33 to) ⟨(mB_i (mB_i (mB_i hBJ 31 (by omega) (by omega)) 32 (by omega) (by omega)) 33 (by omega) (by omega)), (mfr.upI (mfr.upI (mfr.upI hfJ (by decide) _) (by decide) _) (by decide) _), by simp [mFd, va_up] at hfdJ ⊢; omega, by omega, by omega, (fun a9 b9 => (show (0 ≤ F 26 k ∧ F 26 k ≤ 99999) ∧ (0 ≤ to ∧ to ≤ 99999) by omega)), (by have q9 := lo_O_step hOo (hin2 (by omega)) (show 1 = (((lo_W (lo_pp (F 25) (F 26) k, 100000 * F 25 k + to, rg)).length : Nat) : Int) from hwn9) (fd' := (100000 * F 25 k + (F 26 k), 100000 * F 25 k + (to))) (fun _ h9 => absurd h9 (by omega)) (fun _ _ => hel); exact q9)⟩ (by omega) _ _ hP hD hS ls (lv_sub hl [7, 0, 8, 9] rfl)
                · skip
                  refine lv_aload_n hx hb dX6_locate_71 rfl (lv_at hl 6 rfl) ?_
                  refine va_get (D := (dC, dI)) (ci := 6) (v := .ref (ma 27)) (C := RX6) (T := TX6) (N := 44) hx hb hts kt_X6 hown hK hP 0 rfl rfl 27 (by decide) (kx_word hG kq_08_mgather_3 rfl) (fun _ h9 => h9) rfl dX6_locate_72 ?_
                  refine lv_iload_n hx hb dX6_locate_75 rfl (lv_at hl 4 rfl) ?_
                  refine ki_iald (F := F 27) hx hb hK hP 22 21 rfl rfl (by omega) (by omega) (by decide) dX6_locate_76 ?_
                  have hbd_62 := hBJ.2 27 kk
                  refine lv_iload hx hb dX6_locate_77 (lv_at hl 1 rfl) ?_
                  refine ki_icmp_le (tgt := 91) hx hb dX6_locate_79 (by decide) (by omega) (by omega) (by omega) (by omega) (fun c_63 => ?_) (fun c_63 => ?_)
                  · skip
                    refine lv_iload hx hb dX6_locate_91 (lv_at hl 1 rfl) ?_
                    refine lv_istore (lv' := [(6, .int (iz to)), (7, .int (iz rg)), (5, .int (iz (F 26 k))), (4, .int (iz (F 25 k))), (3, .int (iz kk)), (2, .int (iz nz)), (0, .ref mo), (1, .int (iz ask))]) hx hb dX6_locate_93 hl (by decide) rfl (fun ls hl => ?_)
                    refine lv_iload hx hb dX6_locate_95 (lv_at hl 1 rfl) ?_
                    refine ki_if_ne (tgt := 109) hx hb dX6_locate_97 (by decide) (by omega) (by omega) (fun c_64 => ?_) (fun c_64 => ?_)
                    · skip
                      refine lv_iconst (v := iz 1) hx hb dX6_locate_109 (by decide) ?_
                      refine lv_goto (tgt := 114) hx hb dX6_locate_110 (by decide) ?_
                      refine lv_istore (lv' := [(7, .int (iz 1)), (6, .int (iz to)), (5, .int (iz (F 26 k))), (4, .int (iz (F 25 k))), (3, .int (iz kk)), (2, .int (iz nz)), (0, .ref mo), (1, .int (iz ask))]) hx hb dX6_locate_114 hl (by decide) rfl (fun ls hl => ?_)
                      refine lv_iinc (v := iz (kk + 1)) (lv' := [(3, .int (iz (kk + 1))), (7, .int (iz 1)), (6, .int (iz to)), (5, .int (iz (F 26 k))), (4, .int (iz (F 25 k))), (2, .int (iz nz)), (0, .ref mo), (1, .int (iz ask))]) hx hb dX6_locate_116 hl (k := 4) rfl (iz_add kk 1) (by decide) rfl (fun ls hl => ?_)
                      refine lv_goto (tgt := 39) hx hb dX6_locate_119 (by decide) ?_
                      have hgk := hgt k (by omega) (by omega)
                      exact ih39 (kk + 1) to 1 ⟨by omega, by omega, by omega, fun h => absurd h (by omega), (by have q9 := lo_N_in hNn (show 0 ≤ k by omega) (show kk < I 29 by omega) hvkk (show 100000 * F 25 kk + F 26 kk ≤ 100000 * F 25 k + to + 1 by omega); rw [show lo_mx (100000 * F 25 k + to) (lo_pp (F 25) (F 27) kk) = 100000 * F 25 k + (to) by show lo_mx (100000 * F 25 k + to) (100000 * F 25 kk + F 27 kk) = _; unfold lo_mx; split <;> omega, show lo_or rg (F 28 kk) = 1 by unfold lo_or; (first | exact if_pos (by omega) | exact if_neg (by omega))] at q9; exact q9)⟩ (by omega) _ _ hP hD hS ls (lv_sub hl [1, 2, 3, 4, 0, 5, 6, 7] rfl)
                    · skip
                      refine lv_aload_n hx hb dX6_locate_100 rfl (lv_at hl 6 rfl) ?_
                      refine va_get (D := (dC, dI)) (ci := 6) (v := .ref (ma 28)) (C := RX6) (T := TX6) (N := 44) hx hb hts kt_X6 hown hK hP 0 rfl rfl 28 (by decide) (kx_word hG kq_08_mgather_4 rfl) (fun _ h9 => h9) rfl dX6_locate_101 ?_
                      refine lv_iload_n hx hb dX6_locate_104 rfl (lv_at hl 4 rfl) ?_
                      refine ki_zald (F := F 28) hx hb hK hP 23 22 rfl rfl (by omega) (by omega) (by decide) dX6_locate_105 ?_
                      have hbd_65 := hBJ.2 28 kk
                      refine ki_if_eq (tgt := 113) hx hb dX6_locate_106 (by decide) (by omega) (by omega) (fun c_66 => ?_) (fun c_66 => ?_)
                      · skip
                        refine lv_iconst (v := iz 0) hx hb dX6_locate_113 (by decide) ?_
                        refine lv_istore (lv' := [(7, .int (iz 0)), (6, .int (iz to)), (5, .int (iz (F 26 k))), (4, .int (iz (F 25 k))), (3, .int (iz kk)), (2, .int (iz nz)), (0, .ref mo), (1, .int (iz ask))]) hx hb dX6_locate_114 hl (by decide) rfl (fun ls hl => ?_)
                        refine lv_iinc (v := iz (kk + 1)) (lv' := [(3, .int (iz (kk + 1))), (7, .int (iz 0)), (6, .int (iz to)), (5, .int (iz (F 26 k))), (4, .int (iz (F 25 k))), (2, .int (iz nz)), (0, .ref mo), (1, .int (iz ask))]) hx hb dX6_locate_116 hl (k := 4) rfl (iz_add kk 1) (by decide) rfl (fun ls hl => ?_)
                        refine lv_goto (tgt := 39) hx hb dX6_locate_119 (by decide) ?_
                        have hgk := hgt k (by omega) (by omega)
                        exact ih39 (kk + 1) to 0 ⟨by omega, by omega, by omega, fun h => absurd h (by omega), (by have q9 := lo_N_in hNn (show 0 ≤ k by omega) (show kk < I 29 by omega) hvkk (show 100000 * F 25 kk + F 26 kk ≤ 100000 * F 25 k + to + 1 by omega); rw [show lo_mx (100000 * F 25 k + to) (lo_pp (F 25) (F 27) kk) = 100000 * F 25 k + (to) by show lo_mx (100000 * F 25 k + to) (100000 * F 25 kk + F 27 kk) = _; unfold lo_mx; split <;> omega, show lo_or rg (F 28 kk) = 0 by unfold lo_or; (first | exact if_pos (by omega) | exact if_neg (by omega))] at q9; exact q9)⟩ (by omega) _ _ hP hD hS ls (lv_sub hl [1, 2, 3, 4, 0, 5, 6, 7] rfl)
                      · skip
                        refine lv_iconst (v := iz 1) hx hb dX6_locate_109 (by decide) ?_
                        refine lv_goto (tgt := 114) hx hb dX6_locate_110 (by decide) ?_
                        refine lv_istore (lv' := [(7, .int (iz 1)), (6, .int (iz to)), (5, .int (iz (F 26 k))), (4, .int (iz (F 25 k))), (3, .int (iz kk)), (2, .int (iz nz)), (0, .ref mo), (1, .int (iz ask))]) hx hb dX6_locate_114 hl (by decide) rfl (fun ls hl => ?_)
                        refine lv_iinc (v := iz (kk + 1)) (lv' := [(3, .int (iz (kk + 1))), (7, .int (iz 1)), (6, .int (iz to)), (5, .int (iz (F 26 k))), (4, .int (iz (F 25 k))), (2, .int (iz nz)), (0, .ref mo), (1, .int (iz ask))]) hx hb dX6_locate_116 hl (k := 4) rfl (iz_add kk 1) (by decide) rfl (fun ls hl => ?_)
                        refine lv_goto (tgt := 39) hx hb dX6_locate_119 (by decide) ?_
                        have hgk := hgt k (by omega) (by omega)
                        exact ih39 (kk + 1) to 1 ⟨by omega, by omega, by omega, fun h => absurd h (by omega), (by have q9 := lo_N_in hNn (show 0 ≤ k by omega) (show kk < I 29 by omega) hvkk (show 100000 * F 25 kk + F 26 kk ≤ 100000 * F 25 k + to + 1 by omega); rw [show lo_mx (100000 * F 25 k + to) (lo_pp (F 25) (F 27) kk) = 100000 * F 25 k + (to) by show lo_mx (100000 * F 25 k + to) (100000 * F 25 kk + F 27 kk) = _; unfold lo_mx; split <;> omega, show lo_or rg (F 28 kk) = 1 by unfold lo_or; (first | exact if_pos (by omega) | exact if_neg (by omega))] at q9; exact q9)⟩ (by omega) _ _ hP hD hS ls (lv_sub hl [1, 2, 3, 4, 0, 5, 6, 7] rfl)
                  · skip
                    refine lv_aload_n hx hb dX6_locate_82 rfl (lv_at hl 6 rfl) ?_
                    refine va_get (D := (dC, dI)) (ci := 6) (v := .ref (ma 27)) (C := RX6) (T := TX6) (N := 44) hx hb hts kt_X6 hown hK hP 0 rfl rfl 27 (by decide) (kx_word hG kq_08_mgather_3 rfl) (fun _ h9 => h9) rfl dX6_locate_83 ?_
                    refine lv_iload_n hx hb dX6_locate_86 rfl (lv_at hl 4 rfl) ?_
                    refine ki_iald (F := F 27) hx hb hK hP 22 21 rfl rfl (by omega) (by omega) (by decide) dX6_locate_87 ?_
                    refine lv_goto (tgt := 93) hx hb dX6_locate_88 (by decide) ?_
                    refine lv_istore (lv' := [(6, .int (iz (F 27 kk))), (7, .int (iz rg)), (5, .int (iz (F 26 k))), (4, .int (iz (F 25 k))), (3, .int (iz kk)), (2, .int (iz nz)), (0, .ref mo), (1, .int (iz ask))]) hx hb dX6_locate_93 hl (by decide) rfl (fun ls hl => ?_)
                    refine lv_iload hx hb dX6_locate_95 (lv_at hl 1 rfl) ?_
                    refine ki_if_ne (tgt := 109) hx hb dX6_locate_97 (by decide) (by omega) (by omega) (fun c_67 => ?_) (fun c_67 => ?_)
                    · skip
                      refine lv_iconst (v := iz 1) hx hb dX6_locate_109 (by decide) ?_
                      refine lv_goto (tgt := 114) hx hb dX6_locate_110 (by decide) ?_
                      refine lv_istore (lv' := [(7, .int (iz 1)), (6, .int (iz (F 27 kk))), (5, .int (iz (F 26 k))), (4, .int (iz (F 25 k))), (3, .int (iz kk)), (2, .int (iz nz)), (0, .ref mo), (1, .int (iz ask))]) hx hb dX6_locate_114 hl (by decide) rfl (fun ls hl => ?_)
                      refine lv_iinc (v := iz (kk + 1)) (lv' := [(3, .int (iz (kk + 1))), (7, .int (iz 1)), (6, .int (iz (F 27 kk))), (5, .int (iz (F 26 k))), (4, .int (iz (F 25 k))), (2, .int (iz nz)), (0, .ref mo), (1, .int (iz ask))]) hx hb dX6_locate_116 hl (k := 4) rfl (iz_add kk 1) (by decide) rfl (fun ls hl => ?_)
                      refine lv_goto (tgt := 39) hx hb dX6_locate_119 (by decide) ?_
                      have hgk := hgt k (by omega) (by omega)
                      exact ih39 (kk + 1) (F 27 kk) 1 ⟨by omega, by omega, by omega, fun h => absurd h (by omega), (by have q9 := lo_N_in hNn (show 0 ≤ k by omega) (show kk < I 29 by omega) hvkk (show 100000 * F 25 kk + F 26 kk ≤ 100000 * F 25 k + to + 1 by omega); rw [show lo_mx (100000 * F 25 k + to) (lo_pp (F 25) (F 27) kk) = 100000 * F 25 k + (F 27 kk) by show lo_mx (100000 * F 25 k + to) (100000 * F 25 kk + F 27 kk) = _; unfold lo_mx; split <;> omega, show lo_or rg (F 28 kk) = 1 by unfold lo_or; (first | exact if_pos (by omega) | exact if_neg (by omega))] at q9; exact q9)⟩ (by omega) _ _ hP hD hS ls (lv_sub hl [1, 2, 3, 4, 0, 5, 6, 7] rfl)
                    · skip
                      refine lv_aload_n hx hb dX6_locate_100 rfl (lv_at hl 6 rfl) ?_
                      refine va_get (D := (dC, dI)) (ci := 6) (v := .ref (ma 28)) (C := RX6) (T := TX6) (N := 44) hx hb hts kt_X6 hown hK hP 0 rfl rfl 28 (by decide) (kx_word hG kq_08_mgather_4 rfl) (fun _ h9 => h9) rfl dX6_locate_101 ?_
                      refine lv_iload_n hx hb dX6_locate_104 rfl (lv_at hl 4 rfl) ?_
                      refine ki_zald (F := F 28) hx hb hK hP 23 22 rfl rfl (by omega) (by omega) (by decide) dX6_locate_105 ?_
                      have hbd_68 := hBJ.2 28 kk
                      refine ki_if_eq (tgt := 113) hx hb dX6_locate_106 (by decide) (by omega) (by omega) (fun c_69 => ?_) (fun c_69 => ?_)
                      · skip
                        refine lv_iconst (v := iz 0) hx hb dX6_locate_113 (by decide) ?_
                        refine lv_istore (lv' := [(7, .int (iz 0)), (6, .int (iz (F 27 kk))), (5, .int (iz (F 26 k))), (4, .int (iz (F 25 k))), (3, .int (iz kk)), (2, .int (iz nz)), (0, .ref mo), (1, .int (iz ask))]) hx hb dX6_locate_114 hl (by decide) rfl (fun ls hl => ?_)
                        refine lv_iinc (v := iz (kk + 1)) (lv' := [(3, .int (iz (kk + 1))), (7, .int (iz 0)), (6, .int (iz (F 27 kk))), (5, .int (iz (F 26 k))), (4, .int (iz (F 25 k))), (2, .int (iz nz)), (0, .ref mo), (1, .int (iz ask))]) hx hb dX6_locate_116 hl (k := 4) rfl (iz_add kk 1) (by decide) rfl (fun ls hl => ?_)
                        refine lv_goto (tgt := 39) hx hb dX6_locate_119 (by decide) ?_
                        have hgk := hgt k (by omega) (by omega)
                        exact ih39 (kk + 1) (F 27 kk) 0 ⟨by omega, by omega, by omega, fun h => absurd h (by omega), (by have q9 := lo_N_in hNn (show 0 ≤ k by omega) (show kk < I 29 by omega) hvkk (show 100000 * F 25 kk + F 26 kk ≤ 100000 * F 25 k + to + 1 by omega); rw [show lo_mx (100000 * F 25 k + to) (lo_pp (F 25) (F 27) kk) = 100000 * F 25 k + (F 27 kk) by show lo_mx (100000 * F 25 k + to) (100000 * F 25 kk + F 27 kk) = _; unfold lo_mx; split <;> omega, show lo_or rg (F 28 kk) = 0 by unfold lo_or; (first | exact if_pos (by omega) | exact if_neg (by omega))] at q9; exact q9)⟩ (by omega) _ _ hP hD hS ls (lv_sub hl [1, 2, 3, 4, 0, 5, 6, 7] rfl)
                      · skip
                        refine lv_iconst (v := iz 1) hx hb dX6_locate_109 (by decide) ?_
                        refine lv_goto (tgt := 114) hx hb dX6_locate_110 (by decide) ?_
                        refine lv_istore (lv' := [(7, .int (iz 1)), (6, .int (iz (F 27 kk))), (5, .int (iz (F 26 k))), (4, .int (iz (F 25 k))), (3, .int (iz kk)), (2, .int (iz nz)), (0, .ref mo), (1, .int (iz ask))]) hx hb dX6_locate_114 hl (by decide) rfl (fun ls hl => ?_)
                        refine lv_iinc (v := iz (kk + 1)) (lv' := [(3, .int (iz (kk + 1))), (7, .int (iz 1)), (6, .int (iz (F 27 kk))), (5, .int (iz (F 26 k))), (4, .int (iz (F 25 k))), (2, .int (iz nz)), (0, .ref mo), (1, .int (iz ask))]) hx hb dX6_locate_116 hl (k := 4) rfl (iz_add kk 1) (by decide) rfl (fun ls hl => ?_)
                        refine lv_goto (tgt := 39) hx hb dX6_locate_119 (by decide) ?_
                        have hgk := hgt k (by omega) (by omega)
                        exact ih39 (kk + 1) (F 27 kk) 1 ⟨by omega, by omega, by omega, fun h => absurd h (by omega), (by have q9 := lo_N_in hNn (show 0 ≤ k by omega) (show kk < I 29 by omega) hvkk (show 100000 * F 25 kk + F 26 kk ≤ 100000 * F 25 k + to + 1 by omega); rw [show lo_mx (100000 * F 25 k + to) (lo_pp (F 25) (F 27) kk) = 100000 * F 25 k + (F 27 kk) by show lo_mx (100000 * F 25 k + to) (100000 * F 25 kk + F 27 kk) = _; unfold lo_mx; split <;> omega, show lo_or rg (F 28 kk) = 1 by unfold lo_or; (first | exact if_pos (by omega) | exact if_neg (by omega))] at q9; exact q9)⟩ (by omega) _ _ hP hD hS ls (lv_sub hl [1, 2, 3, 4, 0, 5, 6, 7] rfl)
        exact lp39 _ k (F 27 k) 0 ⟨by omega, by omega, by omega, fun _ => ⟨rfl, rfl⟩, lo_N_0 rfl rfl⟩ (Nat.lt_succ_self _) _ _ hP hD hS ls (lv_sub hl [0, 1, 2, 3, 4, 5, 6, 7] rfl)
  exact lp4 _ 0 0 I ⟨hB, mfr.rf, hfd, by omega, by omega, (fun a b => absurd b (by omega)), lo_O_0 _ _ _ _ _ _⟩ (Nat.lt_succ_self _) _ _ hP hD hS ls (lv_sub hl [0, 1, 2, 3] rfl)
set_option maxHeartbeats 4000000 in
set_option maxRecDepth 100000 in
theorem k_locator3 (l : Launch) (dC : Nat → ClassId) (dI : Nat → Nat → Nat) (mo : Nat) (ma : Nat → Nat) (cs : Nat → ClassId) (I : Nat → Int) (F : Nat → Int → Int) (p0 : Int) (p1 : Int) (p2 : Int) (sz : Nat) (hI : mIv I F) (hp01 : -2147483648 ≤ p0) (hp02 : p0 < 2147483648) (hp11 : -2147483648 ≤ p1) (hp12 : p1 < 2147483648) (hp21 : -2147483648 ≤ p2) (hp22 : p2 < 2147483648) (hKb : mKb I F) (hRv : ∀ e, 0 ≤ e → e < I 1 → ∀ x, x ∈ lo_R F e → lo_v x) : mMi l yX6_locator (.code yX6_locator cX6_locator 5 (some .int)) 5 120 dC dI mo ma cs I F [.ref mo, .int (iz p0), .int (iz p1), .int (iz p2)] sz (fun (r : Int) (I' : Nat → Int) (F' : Nat → Int → Int) => mWk I F I' F' ∧ mKb I' F' ∧ I' 16 = 1 ∧ ((I' 0 = 1 ∧ ¬ (0 ≤ p0 ∧ p0 < I' 19)) ∨ ((0 ≤ p0 ∧ p0 < I' 19) ∧ ∃ M9, lo_S (lo_row (F' 17) (lo_R F') (F' 18 p0) (I' 1).toNat) M9 ∧ ((I' 0 = 1 ∧ ¬ ((0 ≤ p1 ∧ p1 < (((lo_L (lo_J M9)).length : Nat) : Int)) ∧ 0 ≤ p2 ∧ p2 ≤ 2)) ∨ (I' 0 = 0 ∧ ((0 ≤ p1 ∧ p1 < (((lo_L (lo_J M9)).length : Nat) : Int)) ∧ 0 ≤ p2 ∧ p2 ≤ 2) ∧ ∃ kd fr to : Int, (0 ≤ fr ∧ fr ≤ 99999) ∧ (0 ≤ to ∧ to ≤ 99999) ∧ (lo_L (lo_J M9))[p1.toNat]? = some (100000 * kd + fr, 100000 * kd + to) ∧ r = (if p2 = 0 then kd else if p2 = 1 then fr else to)))))) := by
  refine Met.ofW (cc := cX6_locator) (maxL := 5) (ret := (some .int)) (by decide) rfl ?_
  intro p e s m args below meth c s₁ B hml hv
  obtain ⟨rfl, hsz, hP, hK, hD0, hG, hZ⟩ := hv
  have hx := B.exec
  have hb := B.bytes
  have hr := B.returns
  have hts := kx_hts (a := ([.ref mo, .int (iz p0), .int (iz p1), .int (iz p2)] : List Value).toArray) hG
  have hown : s.vm.findClass RX6 = some m.cls := findClass_of_methodNamed B.named
  have hlocks := B.notSynchronized
  subst hsz
  have hD := hD0.self (sz := s.heap.size)
  generalize hAe : va_A (mW mo ma cs I F) s.heap.size = A at hD hZ ⊢
  have hA : ∀ q : Nat, s.heap.size ≤ q → A q := fun q h => by rw [← hAe]; exact Or.inr h
  have hS : va_S A s.heap s.heap [] := va_S.rf
  have hl := lv_entry ([.ref mo, .int (iz p0), .int (iz p1), .int (iz p2)]) (n := 5) (Nat.le_of_ble_eq_true rfl)
  rw [lg_entry_eq]
  generalize (lg_sl ([.ref mo, .int (iz p0), .int (iz p1), .int (iz p2)]) ++ List.replicate (5 - (lg_sl ([.ref mo, .int (iz p0), .int (iz p1), .int (iz p2)])).length) Slot.unset).toArray = ls at hl ⊢
  have hl : lv_has ls 5 [(0, .ref mo), (1, .int (iz p0)), (2, .int (iz p1)), (3, .int (iz p2))] := hl
  have hW0 : mWk I F I F := mWk.rf hI
  have hc0 := hI.hc
  refine lv_aload_n hx hb dX6_locator_0 rfl (lv_at hl 0 rfl) ?_
  refine mk_callv (As := []) (rest := []) ⟨hx, hb, hml, hown, hts⟩ (k_look2 l dC dI mo ma cs I F  s.heap.size hI.hB hI.hc hI.hn hI.hlv hI.hkn hI.hk01 hKb.2 hKb.1.1 hKb.1.2.1 hKb.1.2.2.1 hKb.1.2.2.2) (cwV 0 hts (kx_gV kq_11_mask_0 kq_11_mask_1 kq_11_mask_2 kq_04_msmall_6 kq_11_mask_3 rfl) rfl rfl rfl (by decide +kernel) ⟨Nat.le_of_ble_eq_true rfl, Nat.le_of_ble_eq_true rfl⟩) hP hD hK hG hZ hS hA rfl hl.1 rfl (Nat.le_of_ble_eq_true rfl) dX6_locator_1 ⟨Nat.le_of_ble_eq_true rfl, Nat.le_of_ble_eq_true rfl⟩ (fun I_3 F_4 H locs hq_2 hP hD hS => ?_)
  try dsimp only at hq_2
  obtain ⟨hq_2, hkr5⟩ := hq_2
  have hkb5 : mKb I_3 F_4 := hKb.look hq_2.2.1 (by decide) hkr5
  have hk6 : mWk I F I_3 F_4 := mWk.look hI hq_2
  have hI6 : mIv I_3 F_4 := hI.go hk6
  have hw6 : mWk _ _ I_3 F_4 := hW0.tr hk6
  have e166 : I_3 16 = 1 := hq_2.2.2.1
  have hc6 := hI6.hc
  obtain ⟨hsmL, hszL, hrwL⟩ := hI6.hkn (by omega)
  refine lv_aload_n hx hb dX6_locator_4 rfl (lv_at hl 0 rfl) ?_
  refine lv_iload_n hx hb dX6_locator_5 rfl (lv_at hl 1 rfl) ?_
  refine ki_if_lt (tgt := 17) hx hb dX6_locator_6 (by decide) (by omega) (by omega) (fun c_7 => ?_) (fun c_7 => ?_)
  · skip
    refine lv_iconst (v := iz 1) hx hb dX6_locator_17 (by decide) ?_
    refine lv_goto (tgt := 22) hx hb dX6_locator_18 (by decide) ?_
    refine lv_iconst (v := iz 0) hx hb dX6_locator_22 (by decide) ?_
    refine lv_iconst (v := iz 0) hx hb dX6_locator_23 (by decide) ?_
    refine mk_calli (As := [.int (iz 1), .int (iz 0), .int (iz 0)]) (rest := []) ⟨hx, hb, hml, hown, hts⟩ (k_refused1 l dC dI mo ma cs I_3 F_4 0 0 H.size (by omega) (by omega) (by omega) (by omega)) (cwV 3 hts (kx_gV kq_04_msmall_8 kq_04_msmall_9 kq_04_msmall_10 kq_04_msmall_6 kq_04_msmall_11 rfl) rfl rfl rfl (by decide +kernel) ⟨Nat.le_of_ble_eq_true rfl, Nat.le_of_ble_eq_true rfl⟩) hP hD hK hG hZ hS hA rfl hl.1 rfl (Nat.le_of_ble_eq_true rfl) dX6_locator_24 ⟨Nat.le_of_ble_eq_true rfl, Nat.le_of_ble_eq_true rfl⟩ (fun z_8 I_10 F_11 H locs hq_9 hP hD hS => ?_)
    try dsimp only at hq_9
    obtain ⟨rfl, rfl, rfl⟩ := hq_9
    refine ki_if_eq (tgt := 32) hx hb dX6_locator_27 (by decide) (by omega) (by omega) (fun c_12 => ?_) (fun c_12 => ?_)
    · omega
    · skip
      refine lv_iconst (v := iz 0) hx hb dX6_locator_30 (by decide) ?_
      have hk13 : mWk _ _ (va_up I_3 0 1) F_4 ∧ _ := mWk.thr hI6 (v := 1) (by omega)
      have hI13 : mIv (va_up I_3 0 1) F_4 := hI6.go hk13.1
      have hw13 : mWk _ _ (va_up I_3 0 1) F_4 := hw6.tr hk13.1
      have e1613 : (va_up I_3 0 1) 16 = _ := hk13.2.1
      have e1913 : (va_up I_3 0 1) 19 = _ := hk13.2.2
      have e113 : (va_up I_3 0 1) 1 = _ := hk13.1.2.1.1 1 (by decide)
      have hkb14 : mKb (va_up I_3 0 1) F_4 := hkb5.ui 0 (by decide) _
      exact mk_ireti hx hb hr hlocks hP hD hK hS dX6_locator_31 (⟨hw13, hkb14, by omega, Or.inl ⟨rfl, by omega⟩⟩)
  · skip
    refine lv_iload_n hx hb dX6_locator_9 rfl (lv_at hl 1 rfl) ?_
    refine lv_aload_n hx hb dX6_locator_10 rfl (lv_at hl 0 rfl) ?_
    refine va_get (D := (dC, dI)) (ci := 6) (v := .int (iz (I_3 19))) (C := RX6) (T := TX6) (N := 44) hx hb hts kt_X6 hown hK hP 0 rfl rfl 19 (by decide) (kx_word hG kq_07_mlook_0 rfl) (fun _ h9 => h9) rfl dX6_locator_11 ?_
    have hbd_15 := hI6.hB.1 19
    refine ki_icmp_lt (tgt := 21) hx hb dX6_locator_14 (by decide) (by omega) (by omega) (by omega) (by omega) (fun c_16 => ?_) (fun c_16 => ?_)
    · skip
      refine lv_iconst (v := iz 0) hx hb dX6_locator_21 (by decide) ?_
      refine lv_iconst (v := iz 0) hx hb dX6_locator_22 (by decide) ?_
      refine lv_iconst (v := iz 0) hx hb dX6_locator_23 (by decide) ?_
      refine mk_calli (As := [.int (iz 0), .int (iz 0), .int (iz 0)]) (rest := []) ⟨hx, hb, hml, hown, hts⟩ (k_refused0 l dC dI mo ma cs I_3 F_4  H.size ) (cwV 3 hts (kx_gV kq_04_msmall_8 kq_04_msmall_9 kq_04_msmall_10 kq_04_msmall_6 kq_04_msmall_11 rfl) rfl rfl rfl (by decide +kernel) ⟨Nat.le_of_ble_eq_true rfl, Nat.le_of_ble_eq_true rfl⟩) hP hD hK hG hZ hS hA rfl hl.1 rfl (Nat.le_of_ble_eq_true rfl) dX6_locator_24 ⟨Nat.le_of_ble_eq_true rfl, Nat.le_of_ble_eq_true rfl⟩ (fun z_17 I_19 F_20 H locs hq_18 hP hD hS => ?_)
      try dsimp only at hq_18
      obtain ⟨rfl, rfl, rfl⟩ := hq_18
      refine ki_if_eq (tgt := 32) hx hb dX6_locator_27 (by decide) (by omega) (by omega) (fun c_21 => ?_) (fun c_21 => ?_)
      · skip
        have hrw9 := hrwL p0 (by omega) (by omega)
        refine lv_aload_n hx hb dX6_locator_32 rfl (lv_at hl 0 rfl) ?_
        refine lv_aload_n hx hb dX6_locator_33 rfl (lv_at hl 0 rfl) ?_
        refine va_get (D := (dC, dI)) (ci := 6) (v := .ref (ma 18)) (C := RX6) (T := TX6) (N := 44) hx hb hts kt_X6 hown hK hP 0 rfl rfl 18 (by decide) (kx_word hG kq_07_mlook_1 rfl) (fun _ h9 => h9) rfl dX6_locator_34 ?_
        refine lv_iload_n hx hb dX6_locator_37 rfl (lv_at hl 1 rfl) ?_
        refine ki_iald (F := F_4 18) hx hb hK hP 14 13 rfl rfl (by omega) (by omega) (by decide) dX6_locator_38 ?_
        have hbd_22 := hI6.hB.2 18 p0
        have hk23 : mWk _ _ (va_up I_3 0 0) F_4 ∧ _ := mWk.thr hI6 (v := 0) (by omega)
        have hI23 : mIv (va_up I_3 0 0) F_4 := hI6.go hk23.1
        have hw23 : mWk _ _ (va_up I_3 0 0) F_4 := hw6.tr hk23.1
        have e1623 : (va_up I_3 0 0) 16 = _ := hk23.2.1
        have e1923 : (va_up I_3 0 0) 19 = _ := hk23.2.2
        have e123 : (va_up I_3 0 0) 1 = _ := hk23.1.2.1.1 1 (by decide)
        have hkb24 : mKb (va_up I_3 0 0) F_4 := hkb5.ui 0 (by decide) _
        refine mk_callv (As := [.int (iz (F_4 18 p0))]) (rest := []) ⟨hx, hb, hml, hown, hts⟩ (k_gather2 l dC dI mo ma cs (va_up I_3 0 0) F_4 (F_4 18 p0) H.size hI23.hB hI23.hc hI23.hln hI23.hmf (by omega) (by omega) (by intro e a b x hx; rw [lo_R_fr (hw23.2.1.2 6 (by decide)) (hw23.2.1.2 7 (by decide)) (hw23.2.1.2 8 (by decide)) (hw23.2.1.2 9 (by decide)) (hw23.2.1.2 10 (by decide)) (hw23.2.1.2 11 (by decide))] at hx; exact hRv e a (by have h9 := hw23.2.1.1 1 (by decide); have h8 : e < I_3 1 := b; omega) x hx)) (cwV 1 hts (kx_gV kq_10_mprint_0 kq_10_mprint_1 kq_10_mprint_2 kq_04_msmall_6 kq_10_mprint_3 rfl) rfl rfl rfl (by decide +kernel) ⟨Nat.le_of_ble_eq_true rfl, Nat.le_of_ble_eq_true rfl⟩) hP hD hK hG hZ hS hA rfl hl.1 rfl (Nat.le_of_ble_eq_true rfl) dX6_locator_39 ⟨Nat.le_of_ble_eq_true rfl, Nat.le_of_ble_eq_true rfl⟩ (fun I_27 F_28 H locs hq_26 hP hD hS => ?_)
        try dsimp only at hq_26
        have hSg := hq_26.2.2.2.2
        have hfg := hq_26.2.1
        have hq_26 := (⟨hq_26.1, hq_26.2.1, hq_26.2.2.1, hq_26.2.2.2.1⟩ : _ ∧ _ ∧ _ ∧ _)
        have hkb29 : mKb I_27 F_28 := hkb24.fr hq_26.2.1 (by decide) (by decide)
        have hk30 : mWk (va_up I_3 0 0) F_4 I_27 F_28 ∧ _ := mWk.gat hI23 hq_26
        have hI30 : mIv I_27 F_28 := hI23.go hk30.1
        have hw30 : mWk _ _ I_27 F_28 := hw23.tr hk30.1
        have e1630 := hk30.2.1
        have e1930 := hk30.2.2
        have hc30 := hI30.hc
        have hx30a := hk30.1.2.1.1 1 (by decide)
        have hRg : lo_R F_28 = lo_R F_4 := funext (fun e => lo_R_fr (hfg.2 6 (by decide)) (hfg.2 7 (by decide)) (hfg.2 8 (by decide)) (hfg.2 9 (by decide)) (hfg.2 10 (by decide)) (hfg.2 11 (by decide)))
        have hg1 : I_27 1 = I_3 1 := hfg.1 1 (by decide)
        have hRv9 : ∀ e, 0 ≤ e → e < I_3 1 → ∀ x, x ∈ lo_R F_4 e → lo_v x := (by intro e a b x hx; rw [lo_R_fr (hw23.2.1.2 6 (by decide)) (hw23.2.1.2 7 (by decide)) (hw23.2.1.2 8 (by decide)) (hw23.2.1.2 9 (by decide)) (hw23.2.1.2 10 (by decide)) (hw23.2.1.2 11 (by decide))] at hx; exact hRv e a (by have h9 := hw23.2.1.1 1 (by decide); have h8 : e < I_3 1 := b; omega) x hx)
        have hGv9 := lo_S_v hSg (fun x hx => lo_row_all (V := lo_v) _ (fun e a b => hRv9 e a (show e < I_3 1 by have h8 : e < ((((I_3 1).toNat : Nat)) : Int) := b; omega)) x hx)
        refine lv_aload_n hx hb dX6_locator_42 rfl (lv_at hl 0 rfl) ?_
        refine lv_iload_n hx hb dX6_locator_43 rfl (lv_at hl 2 rfl) ?_
        refine mk_calli (As := [.int (iz p1)]) (rest := []) ⟨hx, hb, hml, hown, hts⟩ (k_locate2 l dC dI mo ma cs I_27 F_28 p1 H.size hI30.hB (by have h9 := hI30.hps.2.2.1; omega) hI30.hps.2.2.2 hI30.hps.2.1 (by omega) (by omega) hSg.1 hGv9) (cwV 1 hts (kx_gV kq_10_mprint_4 kq_10_mprint_5 kq_10_mprint_6 kq_04_msmall_6 kq_10_mprint_7 rfl) rfl rfl rfl (by decide +kernel) ⟨Nat.le_of_ble_eq_true rfl, Nat.le_of_ble_eq_true rfl⟩) hP hD hK hG hZ hS hA rfl hl.1 rfl (Nat.le_of_ble_eq_true rfl) dX6_locator_44 ⟨Nat.le_of_ble_eq_true rfl, Nat.le_of_ble_eq_true rfl⟩ (fun z_31 I_33 F_34 H locs hq_32 hP hD hS => ?_)
        try dsimp only at hq_32
        have hlf := hq_32.2.2.1
        have hlq := hq_32.2.2.2.2.2.1
        have hln9 := hq_32.2.2.2.2.2.2.1
        have hle9 := hq_32.2.2.2.2.2.2.2
        have hq_32 := (⟨hq_32.1, hq_32.2.1, hq_32.2.2.1, hq_32.2.2.2.1, hq_32.2.2.2.2.1⟩ : _ ∧ _ ∧ _ ∧ _ ∧ _)
        have hFl := hq_32.1
        have hkb35 : mKb I_33 F_34 := (by have h9 := hq_32.2.2.1; rw [← hq_32.1]; exact hkb29.fr h9 (by decide) (by decide))
        have hk36 : mWk I_27 F_28 I_33 F_34 ∧ _ := mWk.loc hI30 hq_32
        have hI36 : mIv I_33 F_34 := hI30.go hk36.1
        have hw36 : mWk _ _ I_33 F_34 := hw30.tr hk36.1
        have e1636 := hk36.2.1
        have e1936 := hk36.2.2
        have hc36 := hI36.hc
        have hx36a := hk36.1.2.1.1 1 (by decide)
        have hr9 := hq_32.2.2.2.2
        have hl1 : I_33 1 = I_27 1 := hlf.1 1 (by decide)
        replace hlq := fun (_ : Unit) => hlq
        refine lv_istore (lv' := [(4, .int (iz z_31)), (0, .ref mo), (1, .int (iz p0)), (2, .int (iz p1)), (3, .int (iz p2))]) hx hb dX6_locator_47 hl (by decide) rfl (fun ls hl => ?_)
        refine lv_aload_n hx hb dX6_locator_49 rfl (lv_at hl 1 rfl) ?_
        refine lv_iload_n hx hb dX6_locator_50 rfl (lv_at hl 3 rfl) ?_
        refine ki_if_lt (tgt := 69) hx hb dX6_locator_51 (by decide) (by omega) (by omega) (fun c_37 => ?_) (fun c_37 => ?_)
        · skip
          refine lv_iconst (v := iz 1) hx hb dX6_locator_69 (by decide) ?_
          refine lv_goto (tgt := 74) hx hb dX6_locator_70 (by decide) ?_
          refine lv_iconst (v := iz 0) hx hb dX6_locator_74 (by decide) ?_
          refine lv_iconst (v := iz 0) hx hb dX6_locator_75 (by decide) ?_
          refine mk_calli (As := [.int (iz 1), .int (iz 0), .int (iz 0)]) (rest := []) ⟨hx, hb, hml, hown, hts⟩ (k_refused1 l dC dI mo ma cs I_33 F_34 0 0 H.size (by omega) (by omega) (by omega) (by omega)) (cwV 3 hts (kx_gV kq_04_msmall_8 kq_04_msmall_9 kq_04_msmall_10 kq_04_msmall_6 kq_04_msmall_11 rfl) rfl rfl rfl (by decide +kernel) ⟨Nat.le_of_ble_eq_true rfl, Nat.le_of_ble_eq_true rfl⟩) hP hD hK hG hZ hS hA rfl hl.1 rfl (Nat.le_of_ble_eq_true rfl) dX6_locator_76 ⟨Nat.le_of_ble_eq_true rfl, Nat.le_of_ble_eq_true rfl⟩ (fun z_38 I_40 F_41 H locs hq_39 hP hD hS => ?_)
          try dsimp only at hq_39
          obtain ⟨rfl, rfl, rfl⟩ := hq_39
          refine ki_if_eq (tgt := 84) hx hb dX6_locator_79 (by decide) (by omega) (by omega) (fun c_42 => ?_) (fun c_42 => ?_)
          · omega
          · skip
            refine lv_iconst (v := iz 0) hx hb dX6_locator_82 (by decide) ?_
            have hk43 : mWk _ _ (va_up I_33 0 1) F_34 ∧ _ := mWk.thr hI36 (v := 1) (by omega)
            have hI43 : mIv (va_up I_33 0 1) F_34 := hI36.go hk43.1
            have hw43 : mWk _ _ (va_up I_33 0 1) F_34 := hw36.tr hk43.1
            have e1643 : (va_up I_33 0 1) 16 = _ := hk43.2.1
            have e1943 : (va_up I_33 0 1) 19 = _ := hk43.2.2
            have e143 : (va_up I_33 0 1) 1 = _ := hk43.1.2.1.1 1 (by decide)
            have hkb44 : mKb (va_up I_33 0 1) F_34 := hkb35.ui 0 (by decide) _
            exact mk_ireti hx hb hr hlocks hP hD hK hS dX6_locator_83 (⟨hw43, hkb44, by omega, Or.inr ⟨by omega, (lo_G (I_27 29) F_28), (by show lo_S (lo_row (F_34 17) (lo_R F_34) (F_34 18 p0) (I_33 1).toNat) (lo_G (I_27 29) F_28); rw [← hFl, hRg, hfg.2 17 (by decide), hfg.2 18 (by decide), hl1, hg1]; exact hSg), Or.inl ⟨rfl, fun h9 => by have h8 := h9.1; have h7 := h9.2; rw [← hln9] at h8; omega⟩⟩⟩)
        · skip
          refine lv_iload_n hx hb dX6_locator_54 rfl (lv_at hl 3 rfl) ?_
          refine lv_iload hx hb dX6_locator_55 (lv_at hl 0 rfl) ?_
          refine ki_icmp_ge (tgt := 69) hx hb dX6_locator_57 (by decide) (by omega) (by omega) (by omega) (by omega) (fun c_45 => ?_) (fun c_45 => ?_)
          · skip
            refine lv_iconst (v := iz 1) hx hb dX6_locator_69 (by decide) ?_
            refine lv_goto (tgt := 74) hx hb dX6_locator_70 (by decide) ?_
            refine lv_iconst (v := iz 0) hx hb dX6_locator_74 (by decide) ?_
            refine lv_iconst (v := iz 0) hx hb dX6_locator_75 (by decide) ?_
            refine mk_calli (As := [.int (iz 1), .int (iz 0), .int (iz 0)]) (rest := []) ⟨hx, hb, hml, hown, hts⟩ (k_refused1 l dC dI mo ma cs I_33 F_34 0 0 H.size (by omega) (by omega) (by omega) (by omega)) (cwV 3 hts (kx_gV kq_04_msmall_8 kq_04_msmall_9 kq_04_msmall_10 kq_04_msmall_6 kq_04_msmall_11 rfl) rfl rfl rfl (by decide +kernel) ⟨Nat.le_of_ble_eq_true rfl, Nat.le_of_ble_eq_true rfl⟩) hP hD hK hG hZ hS hA rfl hl.1 rfl (Nat.le_of_ble_eq_true rfl) dX6_locator_76 ⟨Nat.le_of_ble_eq_true rfl, Nat.le_of_ble_eq_true rfl⟩ (fun z_46 I_48 F_49 H locs hq_47 hP hD hS => ?_)
            try dsimp only at hq_47
            obtain ⟨rfl, rfl, rfl⟩ := hq_47
            refine ki_if_eq (tgt := 84) hx hb dX6_locator_79 (by decide) (by omega) (by omega) (fun c_50 => ?_) (fun c_50 => ?_)
            · omega
            · skip
              refine lv_iconst (v := iz 0) hx hb dX6_locator_82 (by decide) ?_
              have hk51 : mWk _ _ (va_up I_33 0 1) F_34 ∧ _ := mWk.thr hI36 (v := 1) (by omega)
              have hI51 : mIv (va_up I_33 0 1) F_34 := hI36.go hk51.1
              have hw51 : mWk _ _ (va_up I_33 0 1) F_34 := hw36.tr hk51.1
              have e1651 : (va_up I_33 0 1) 16 = _ := hk51.2.1
              have e1951 : (va_up I_33 0 1) 19 = _ := hk51.2.2
              have e151 : (va_up I_33 0 1) 1 = _ := hk51.1.2.1.1 1 (by decide)
              have hkb52 : mKb (va_up I_33 0 1) F_34 := hkb35.ui 0 (by decide) _
              exact mk_ireti hx hb hr hlocks hP hD hK hS dX6_locator_83 (⟨hw51, hkb52, by omega, Or.inr ⟨by omega, (lo_G (I_27 29) F_28), (by show lo_S (lo_row (F_34 17) (lo_R F_34) (F_34 18 p0) (I_33 1).toNat) (lo_G (I_27 29) F_28); rw [← hFl, hRg, hfg.2 17 (by decide), hfg.2 18 (by decide), hl1, hg1]; exact hSg), Or.inl ⟨rfl, fun h9 => by have h8 := h9.1; have h7 := h9.2; rw [← hln9] at h8; omega⟩⟩⟩)
          · skip
            refine lv_iload_n hx hb dX6_locator_60 rfl (lv_at hl 4 rfl) ?_
            refine ki_if_lt (tgt := 69) hx hb dX6_locator_61 (by decide) (by omega) (by omega) (fun c_53 => ?_) (fun c_53 => ?_)
            · skip
              refine lv_iconst (v := iz 1) hx hb dX6_locator_69 (by decide) ?_
              refine lv_goto (tgt := 74) hx hb dX6_locator_70 (by decide) ?_
              refine lv_iconst (v := iz 0) hx hb dX6_locator_74 (by decide) ?_
              refine lv_iconst (v := iz 0) hx hb dX6_locator_75 (by decide) ?_
              refine mk_calli (As := [.int (iz 1), .int (iz 0), .int (iz 0)]) (rest := []) ⟨hx, hb, hml, hown, hts⟩ (k_refused1 l dC dI mo ma cs I_33 F_34 0 0 H.size (by omega) (by omega) (by omega) (by omega)) (cwV 3 hts (kx_gV kq_04_msmall_8 kq_04_msmall_9 kq_04_msmall_10 kq_04_msmall_6 kq_04_msmall_11 rfl) rfl rfl rfl (by decide +kernel) ⟨Nat.le_of_ble_eq_true rfl, Nat.le_of_ble_eq_true rfl⟩) hP hD hK hG hZ hS hA rfl hl.1 rfl (Nat.le_of_ble_eq_true rfl) dX6_locator_76 ⟨Nat.le_of_ble_eq_true rfl, Nat.le_of_ble_eq_true rfl⟩ (fun z_54 I_56 F_57 H locs hq_55 hP hD hS => ?_)
              try dsimp only at hq_55
              obtain ⟨rfl, rfl, rfl⟩ := hq_55
              refine ki_if_eq (tgt := 84) hx hb dX6_locator_79 (by decide) (by omega) (by omega) (fun c_58 => ?_) (fun c_58 => ?_)
              · omega
              · skip
                refine lv_iconst (v := iz 0) hx hb dX6_locator_82 (by decide) ?_
                have hk59 : mWk _ _ (va_up I_33 0 1) F_34 ∧ _ := mWk.thr hI36 (v := 1) (by omega)
                have hI59 : mIv (va_up I_33 0 1) F_34 := hI36.go hk59.1
                have hw59 : mWk _ _ (va_up I_33 0 1) F_34 := hw36.tr hk59.1
                have e1659 : (va_up I_33 0 1) 16 = _ := hk59.2.1
                have e1959 : (va_up I_33 0 1) 19 = _ := hk59.2.2
                have e159 : (va_up I_33 0 1) 1 = _ := hk59.1.2.1.1 1 (by decide)
                have hkb60 : mKb (va_up I_33 0 1) F_34 := hkb35.ui 0 (by decide) _
                exact mk_ireti hx hb hr hlocks hP hD hK hS dX6_locator_83 (⟨hw59, hkb60, by omega, Or.inr ⟨by omega, (lo_G (I_27 29) F_28), (by show lo_S (lo_row (F_34 17) (lo_R F_34) (F_34 18 p0) (I_33 1).toNat) (lo_G (I_27 29) F_28); rw [← hFl, hRg, hfg.2 17 (by decide), hfg.2 18 (by decide), hl1, hg1]; exact hSg), Or.inl ⟨rfl, fun h9 => by have h8 := h9.1; have h7 := h9.2; rw [← hln9] at h8; omega⟩⟩⟩)
            · skip
              refine lv_iload_n hx hb dX6_locator_64 rfl (lv_at hl 4 rfl) ?_
              refine lv_iconst (v := iz 2) hx hb dX6_locator_65 (by decide) ?_
              refine ki_icmp_le (tgt := 73) hx hb dX6_locator_66 (by decide) (by omega) (by omega) (by omega) (by omega) (fun c_61 => ?_) (fun c_61 => ?_)
              · skip
                refine lv_iconst (v := iz 0) hx hb dX6_locator_73 (by decide) ?_
                refine lv_iconst (v := iz 0) hx hb dX6_locator_74 (by decide) ?_
                refine lv_iconst (v := iz 0) hx hb dX6_locator_75 (by decide) ?_
                refine mk_calli (As := [.int (iz 0), .int (iz 0), .int (iz 0)]) (rest := []) ⟨hx, hb, hml, hown, hts⟩ (k_refused0 l dC dI mo ma cs I_33 F_34  H.size ) (cwV 3 hts (kx_gV kq_04_msmall_8 kq_04_msmall_9 kq_04_msmall_10 kq_04_msmall_6 kq_04_msmall_11 rfl) rfl rfl rfl (by decide +kernel) ⟨Nat.le_of_ble_eq_true rfl, Nat.le_of_ble_eq_true rfl⟩) hP hD hK hG hZ hS hA rfl hl.1 rfl (Nat.le_of_ble_eq_true rfl) dX6_locator_76 ⟨Nat.le_of_ble_eq_true rfl, Nat.le_of_ble_eq_true rfl⟩ (fun z_62 I_64 F_65 H locs hq_63 hP hD hS => ?_)
                try dsimp only at hq_63
                obtain ⟨rfl, rfl, rfl⟩ := hq_63
                refine ki_if_eq (tgt := 84) hx hb dX6_locator_79 (by decide) (by omega) (by omega) (fun c_66 => ?_) (fun c_66 => ?_)
                · skip
                  refine lv_iload_n hx hb dX6_locator_84 rfl (lv_at hl 4 rfl) ?_
                  refine ki_if_ne (tgt := 95) hx hb dX6_locator_85 (by decide) (by omega) (by omega) (fun c_67 => ?_) (fun c_67 => ?_)
                  · skip
                    refine lv_iload_n hx hb dX6_locator_95 rfl (lv_at hl 4 rfl) ?_
                    refine lv_iconst (v := iz 1) hx hb dX6_locator_96 (by decide) ?_
                    refine ki_icmp_ne (tgt := 107) hx hb dX6_locator_97 (by decide) (by omega) (by omega) (by omega) (by omega) (fun c_68 => ?_) (fun c_68 => ?_)
                    · skip
                      refine lv_aload_n hx hb dX6_locator_107 rfl (lv_at hl 1 rfl) ?_
                      refine va_get (D := (dC, dI)) (ci := 6) (v := .int (iz (I_33 33))) (C := RX6) (T := TX6) (N := 44) hx hb hts kt_X6 hown hK hP 0 rfl rfl 33 (by decide) (kx_word hG kq_09_mput_2 rfl) (fun _ h9 => h9) rfl dX6_locator_108 ?_
                      have hbd_69 := hI36.hB.1 33
                      have hk70 : mWk _ _ (va_up I_33 0 0) F_34 ∧ _ := mWk.thr hI36 (v := 0) (by omega)
                      have hI70 : mIv (va_up I_33 0 0) F_34 := hI36.go hk70.1
                      have hw70 : mWk _ _ (va_up I_33 0 0) F_34 := hw36.tr hk70.1
                      have e1670 : (va_up I_33 0 0) 16 = _ := hk70.2.1
                      have e1970 : (va_up I_33 0 0) 19 = _ := hk70.2.2
                      have e170 : (va_up I_33 0 0) 1 = _ := hk70.1.2.1.1 1 (by decide)
                      have hkb71 : mKb (va_up I_33 0 0) F_34 := hkb35.ui 0 (by decide) _
                      exact mk_ireti hx hb hr hlocks hP hD hK hS dX6_locator_111 (⟨hw70, hkb71, by omega, Or.inr ⟨by omega, (lo_G (I_27 29) F_28), (by show lo_S (lo_row (F_34 17) (lo_R F_34) (F_34 18 p0) (I_33 1).toNat) (lo_G (I_27 29) F_28); rw [← hFl, hRg, hfg.2 17 (by decide), hfg.2 18 (by decide), hl1, hg1]; exact hSg), Or.inr ⟨rfl, ⟨(by rw [← hln9]; omega), by omega⟩, I_33 31, I_33 32, I_33 33, (hlq () (by omega) (by omega)).1, (hlq () (by omega) (by omega)).2, hle9 (by omega) (by omega), by first | (rw [if_pos (by omega)]) | (rw [if_neg (by omega), if_pos (by omega)]) | (rw [if_neg (by omega), if_neg (by omega)])⟩⟩⟩)
                    · skip
                      refine lv_aload_n hx hb dX6_locator_100 rfl (lv_at hl 1 rfl) ?_
                      refine va_get (D := (dC, dI)) (ci := 6) (v := .int (iz (I_33 32))) (C := RX6) (T := TX6) (N := 44) hx hb hts kt_X6 hown hK hP 0 rfl rfl 32 (by decide) (kx_word hG kq_09_mput_1 rfl) (fun _ h9 => h9) rfl dX6_locator_101 ?_
                      have hbd_72 := hI36.hB.1 32
                      refine lv_goto (tgt := 111) hx hb dX6_locator_104 (by decide) ?_
                      have hk73 : mWk _ _ (va_up I_33 0 0) F_34 ∧ _ := mWk.thr hI36 (v := 0) (by omega)
                      have hI73 : mIv (va_up I_33 0 0) F_34 := hI36.go hk73.1
                      have hw73 : mWk _ _ (va_up I_33 0 0) F_34 := hw36.tr hk73.1
                      have e1673 : (va_up I_33 0 0) 16 = _ := hk73.2.1
                      have e1973 : (va_up I_33 0 0) 19 = _ := hk73.2.2
                      have e173 : (va_up I_33 0 0) 1 = _ := hk73.1.2.1.1 1 (by decide)
                      have hkb74 : mKb (va_up I_33 0 0) F_34 := hkb35.ui 0 (by decide) _
                      exact mk_ireti hx hb hr hlocks hP hD hK hS dX6_locator_111 (⟨hw73, hkb74, by omega, Or.inr ⟨by omega, (lo_G (I_27 29) F_28), (by show lo_S (lo_row (F_34 17) (lo_R F_34) (F_34 18 p0) (I_33 1).toNat) (lo_G (I_27 29) F_28); rw [← hFl, hRg, hfg.2 17 (by decide), hfg.2 18 (by decide), hl1, hg1]; exact hSg), Or.inr ⟨rfl, ⟨(by rw [← hln9]; omega), by omega⟩, I_33 31, I_33 32, I_33 33, (hlq () (by omega) (by omega)).1, (hlq () (by omega) (by omega)).2, hle9 (by omega) (by omega), by first | (rw [if_pos (by omega)]) | (rw [if_neg (by omega), if_pos (by omega)]) | (rw [if_neg (by omega), if_neg (by omega)])⟩⟩⟩)
                  · skip
                    refine lv_aload_n hx hb dX6_locator_88 rfl (lv_at hl 1 rfl) ?_
                    refine va_get (D := (dC, dI)) (ci := 6) (v := .int (iz (I_33 31))) (C := RX6) (T := TX6) (N := 44) hx hb hts kt_X6 hown hK hP 0 rfl rfl 31 (by decide) (kx_word hG kq_09_mput_0 rfl) (fun _ h9 => h9) rfl dX6_locator_89 ?_
                    have hbd_75 := hI36.hB.1 31
                    refine lv_goto (tgt := 111) hx hb dX6_locator_92 (by decide) ?_
                    have hk76 : mWk _ _ (va_up I_33 0 0) F_34 ∧ _ := mWk.thr hI36 (v := 0) (by omega)
                    have hI76 : mIv (va_up I_33 0 0) F_34 := hI36.go hk76.1
                    have hw76 : mWk _ _ (va_up I_33 0 0) F_34 := hw36.tr hk76.1
                    have e1676 : (va_up I_33 0 0) 16 = _ := hk76.2.1
                    have e1976 : (va_up I_33 0 0) 19 = _ := hk76.2.2
                    have e176 : (va_up I_33 0 0) 1 = _ := hk76.1.2.1.1 1 (by decide)
                    have hkb77 : mKb (va_up I_33 0 0) F_34 := hkb35.ui 0 (by decide) _
                    exact mk_ireti hx hb hr hlocks hP hD hK hS dX6_locator_111 (⟨hw76, hkb77, by omega, Or.inr ⟨by omega, (lo_G (I_27 29) F_28), (by show lo_S (lo_row (F_34 17) (lo_R F_34) (F_34 18 p0) (I_33 1).toNat) (lo_G (I_27 29) F_28); rw [← hFl, hRg, hfg.2 17 (by decide), hfg.2 18 (by decide), hl1, hg1]; exact hSg), Or.inr ⟨rfl, ⟨(by rw [← hln9]; omega), by omega⟩, I_33 31, I_33 32, I_33 33, (hlq () (by omega) (by omega)).1, (hlq () (by omega) (by omega)).2, hle9 (by omega) (by omega), by first | (rw [if_pos (by omega)]) | (rw [if_neg (by omega), if_pos (by omega)]) | (rw [if_neg (by omega), if_neg (by omega)])⟩⟩⟩)
                · omega
              · skip
                refine lv_iconst (v := iz 1) hx hb dX6_locator_69 (by decide) ?_
                refine lv_goto (tgt := 74) hx hb dX6_locator_70 (by decide) ?_
                refine lv_iconst (v := iz 0) hx hb dX6_locator_74 (by decide) ?_
                refine lv_iconst (v := iz 0) hx hb dX6_locator_75 (by decide) ?_
                refine mk_calli (As := [.int (iz 1), .int (iz 0), .int (iz 0)]) (rest := []) ⟨hx, hb, hml, hown, hts⟩ (k_refused1 l dC dI mo ma cs I_33 F_34 0 0 H.size (by omega) (by omega) (by omega) (by omega)) (cwV 3 hts (kx_gV kq_04_msmall_8 kq_04_msmall_9 kq_04_msmall_10 kq_04_msmall_6 kq_04_msmall_11 rfl) rfl rfl rfl (by decide +kernel) ⟨Nat.le_of_ble_eq_true rfl, Nat.le_of_ble_eq_true rfl⟩) hP hD hK hG hZ hS hA rfl hl.1 rfl (Nat.le_of_ble_eq_true rfl) dX6_locator_76 ⟨Nat.le_of_ble_eq_true rfl, Nat.le_of_ble_eq_true rfl⟩ (fun z_78 I_80 F_81 H locs hq_79 hP hD hS => ?_)
                try dsimp only at hq_79
                obtain ⟨rfl, rfl, rfl⟩ := hq_79
                refine ki_if_eq (tgt := 84) hx hb dX6_locator_79 (by decide) (by omega) (by omega) (fun c_82 => ?_) (fun c_82 => ?_)
                · omega
                · skip
                  refine lv_iconst (v := iz 0) hx hb dX6_locator_82 (by decide) ?_
                  have hk83 : mWk _ _ (va_up I_33 0 1) F_34 ∧ _ := mWk.thr hI36 (v := 1) (by omega)
                  have hI83 : mIv (va_up I_33 0 1) F_34 := hI36.go hk83.1
                  have hw83 : mWk _ _ (va_up I_33 0 1) F_34 := hw36.tr hk83.1
                  have e1683 : (va_up I_33 0 1) 16 = _ := hk83.2.1
                  have e1983 : (va_up I_33 0 1) 19 = _ := hk83.2.2
                  have e183 : (va_up I_33 0 1) 1 = _ := hk83.1.2.1.1 1 (by decide)
                  have hkb84 : mKb (va_up I_33 0 1) F_34 := hkb35.ui 0 (by decide) _
                  exact mk_ireti hx hb hr hlocks hP hD hK hS dX6_locator_83 (⟨hw83, hkb84, by omega, Or.inr ⟨by omega, (lo_G (I_27 29) F_28), (by show lo_S (lo_row (F_34 17) (lo_R F_34) (F_34 18 p0) (I_33 1).toNat) (lo_G (I_27 29) F_28); rw [← hFl, hRg, hfg.2 17 (by decide), hfg.2 18 (by decide), hl1, hg1]; exact hSg), Or.inl ⟨rfl, fun h9 => by have h8 := h9.1; have h7 := h9.2; rw [← hln9] at h8; omega⟩⟩⟩)
      · omega
    · skip
      refine lv_iconst (v := iz 1) hx hb dX6_locator_17 (by decide) ?_
      refine lv_goto (tgt := 22) hx hb dX6_locator_18 (by decide) ?_
      refine lv_iconst (v := iz 0) hx hb dX6_locator_22 (by decide) ?_
      refine lv_iconst (v := iz 0) hx hb dX6_locator_23 (by decide) ?_
      refine mk_calli (As := [.int (iz 1), .int (iz 0), .int (iz 0)]) (rest := []) ⟨hx, hb, hml, hown, hts⟩ (k_refused1 l dC dI mo ma cs I_3 F_4 0 0 H.size (by omega) (by omega) (by omega) (by omega)) (cwV 3 hts (kx_gV kq_04_msmall_8 kq_04_msmall_9 kq_04_msmall_10 kq_04_msmall_6 kq_04_msmall_11 rfl) rfl rfl rfl (by decide +kernel) ⟨Nat.le_of_ble_eq_true rfl, Nat.le_of_ble_eq_true rfl⟩) hP hD hK hG hZ hS hA rfl hl.1 rfl (Nat.le_of_ble_eq_true rfl) dX6_locator_24 ⟨Nat.le_of_ble_eq_true rfl, Nat.le_of_ble_eq_true rfl⟩ (fun z_85 I_87 F_88 H locs hq_86 hP hD hS => ?_)
      try dsimp only at hq_86
      obtain ⟨rfl, rfl, rfl⟩ := hq_86
      refine ki_if_eq (tgt := 32) hx hb dX6_locator_27 (by decide) (by omega) (by omega) (fun c_89 => ?_) (fun c_89 => ?_)
      · omega
      · skip
        refine lv_iconst (v := iz 0) hx hb dX6_locator_30 (by decide) ?_
        have hk90 : mWk _ _ (va_up I_3 0 1) F_4 ∧ _ := mWk.thr hI6 (v := 1) (by omega)
        have hI90 : mIv (va_up I_3 0 1) F_4 := hI6.go hk90.1
        have hw90 : mWk _ _ (va_up I_3 0 1) F_4 := hw6.tr hk90.1
        have e1690 : (va_up I_3 0 1) 16 = _ := hk90.2.1
        have e1990 : (va_up I_3 0 1) 19 = _ := hk90.2.2
        have e190 : (va_up I_3 0 1) 1 = _ := hk90.1.2.1.1 1 (by decide)
        have hkb91 : mKb (va_up I_3 0 1) F_4 := hkb5.ui 0 (by decide) _
        exact mk_ireti hx hb hr hlocks hP hD hK hS dX6_locator_31 (⟨hw90, hkb91, by omega, Or.inl ⟨rfl, by omega⟩⟩)
