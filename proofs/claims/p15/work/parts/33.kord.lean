/-! the reference, exact: orderOf, compare -/

set_option maxHeartbeats 4000000 in
set_option maxRecDepth 100000 in
/-- orderOf, exact -/
theorem k_orderOf2 (l : Launch) (dC : Nat → ClassId) (dI : Nat → Nat → Nat) (mo : Nat) (ma : Nat → Nat) (cs : Nat → ClassId) (I : Nat → Int) (F : Nat → Int → Int) (p0 : Int) (p1 : Int) (sz : Nat) (hB : mB I F) (h0 : 0 ≤ p0 ∧ p0 < 80) (h1 : 0 ≤ p1 ∧ p1 < 80) (hn : ∀ e, 0 ≤ F 5 e ∧ F 5 e ≤ 20) (hsga : kf_mSg F p0) (hsgb : kf_mSg F p1) (hdg : I 14 = 0 ∨ I 14 = 1) (hwd : I 15 = 0 ∨ I 15 = 1) : mMi l yX6_orderOf (.code yX6_orderOf cX6_orderOf 6 (some .int)) 2 47 dC dI mo ma cs I F [.ref mo, .int (iz p0), .int (iz p1)] sz (fun (r : Int) (I' : Nat → Int) (F' : Nat → Int → Int) => I = I' ∧ mB I F' ∧ mfr [] [20, 21, 22, 23, 24] I F I F' ∧ (-1 ≤ r ∧ r ≤ 1) ∧ r = kf_oc I F p0 p1) := by
  refine Met.ofW (cc := cX6_orderOf) (maxL := 6) (ret := (some .int)) (by decide) rfl ?_
  intro p e s m args below meth c s₁ B hml hv
  obtain ⟨rfl, hsz, hP, hK, hD0, hG, hZ⟩ := hv
  have hx := B.exec
  have hb := B.bytes
  have hr := B.returns
  have hts := kx_hts (a := ([.ref mo, .int (iz p0), .int (iz p1)] : List Value).toArray) hG
  have hown : s.vm.findClass RX6 = some m.cls := findClass_of_methodNamed B.named
  have hlocks := B.notSynchronized
  subst hsz
  have hD := hD0.self (sz := s.heap.size)
  generalize hAe : va_A (mW mo ma cs I F) s.heap.size = A at hD hZ ⊢
  have hA : ∀ q : Nat, s.heap.size ≤ q → A q := fun q h => by rw [← hAe]; exact Or.inr h
  have hS : va_S A s.heap s.heap [] := va_S.rf
  have hl := lv_entry ([.ref mo, .int (iz p0), .int (iz p1)]) (n := 6) (Nat.le_of_ble_eq_true rfl)
  rw [lg_entry_eq]
  generalize (lg_sl ([.ref mo, .int (iz p0), .int (iz p1)]) ++ List.replicate (6 - (lg_sl ([.ref mo, .int (iz p0), .int (iz p1)])).length) Slot.unset).toArray = ls at hl ⊢
  have hl : lv_has ls 6 [(0, .ref mo), (1, .int (iz p0)), (2, .int (iz p1))] := hl
  generalize hQe : MQ below (mQi dC dI mo ma cs A (fun (r : Int) (I' : Nat → Int) (F' : Nat → Int → Int) => I = I' ∧ mB I F' ∧ mfr [] [20, 21, 22, 23, 24] I F I F' ∧ (-1 ≤ r ∧ r ≤ 1) ∧ r = kf_oc I F p0 p1)) ([.ref mo, .int (iz p0), .int (iz p1)] : List Value).toArray s 0 0 A = QQ
  replace hdg := fun (_ : Unit) => hdg
  replace hwd := fun (_ : Unit) => hwd
  have hna := hn p0
  have hnb := hn p1
  obtain ⟨LL, hLL⟩ : ∃ x, x = kf_lx (kf_ky I F p0) (kf_ky I F p1) := ⟨_, rfl⟩
  obtain ⟨RR, hRR⟩ : ∃ x, x = kf_lx (kf_rks F p0) (kf_rks F p1) := ⟨_, rfl⟩
  refine lv_aload_n hx hb dX6_orderOf_0 rfl (lv_at hl 0 rfl) ?_
  refine lv_iconst (v := iz 0) hx hb dX6_orderOf_1 (by decide) ?_
  refine mk_callv (As := [.int (iz 0)]) (rest := []) ⟨hx, hb, hml, hown, hts⟩ (k_begin l dC dI mo ma cs I F 0 s.heap.size hB (by omega)) (cwV 1 hts (kx_gV kq_06_mway_0 kq_06_mway_1 kq_06_mway_2 kq_04_msmall_6 kq_06_mway_3 rfl) rfl rfl rfl (by decide +kernel) ⟨Nat.le_of_ble_eq_true rfl, Nat.le_of_ble_eq_true rfl⟩) hP hD hK hG hZ hS hA rfl hl.1 rfl (Nat.le_of_ble_eq_true rfl) dX6_orderOf_2 ⟨Nat.le_of_ble_eq_true rfl, Nat.le_of_ble_eq_true rfl⟩ (fun I_3 F_4 H locs hq_2 hP hD hS => ?_)
  try dsimp only at hq_2
  obtain ⟨rfl, rfl⟩ := hq_2
  refine lv_aload_n hx hb dX6_orderOf_5 rfl (lv_at hl 0 rfl) ?_
  refine lv_iconst (v := iz 1) hx hb dX6_orderOf_6 (by decide) ?_
  refine mk_callv (As := [.int (iz 1)]) (rest := []) ⟨hx, hb, hml, hown, hts⟩ (k_begin l dC dI mo ma cs I (va_up (va_up F 20 (upI (F 20) 0 0)) 21 (upI (F 21) 0 (vp_nar .boolean (iz 0)).toInt)) 1 H.size (mB_f (mB_f hB 20 0 (by omega) (by omega)) 21 0 (iz_lo _) (iz_hi _)) (by omega)) (cwV 1 hts (kx_gV kq_06_mway_0 kq_06_mway_1 kq_06_mway_2 kq_04_msmall_6 kq_06_mway_3 rfl) rfl rfl rfl (by decide +kernel) ⟨Nat.le_of_ble_eq_true rfl, Nat.le_of_ble_eq_true rfl⟩) hP hD hK hG hZ hS hA rfl hl.1 rfl (Nat.le_of_ble_eq_true rfl) dX6_orderOf_7 ⟨Nat.le_of_ble_eq_true rfl, Nat.le_of_ble_eq_true rfl⟩ (fun I_7 F_8 H locs hq_6 hP hD hS => ?_)
  try dsimp only at hq_6
  obtain ⟨rfl, rfl⟩ := hq_6
  refine lv_iconst (v := iz 1) hx hb dX6_orderOf_10 (by decide) ?_
  refine lv_istore_n (lv' := [(3, .int (iz 1)), (0, .ref mo), (1, .int (iz p0)), (2, .int (iz p1))]) hx hb dX6_orderOf_11 rfl hl (by decide) rfl (fun ls hl => ?_)
  have hnar : (vp_nar .boolean (iz 0)).toInt = 0 := by decide
  have ei20_0 : (va_up (va_up (va_up (va_up F 20 (upI (F 20) 0 0)) 21 (upI (F 21) 0 (vp_nar .boolean (iz 0)).toInt)) 20 (upI ((upI (F 20) 0 0)) 1 0)) 21 (upI ((upI (F 21) 0 (vp_nar .boolean (iz 0)).toInt)) 1 (vp_nar .boolean (iz 0)).toInt)) 20 0 = 0 := by first | rfl | simp [va_up, upI]
  have ei21_0 : (va_up (va_up (va_up (va_up F 20 (upI (F 20) 0 0)) 21 (upI (F 21) 0 (vp_nar .boolean (iz 0)).toInt)) 20 (upI ((upI (F 20) 0 0)) 1 0)) 21 (upI ((upI (F 21) 0 (vp_nar .boolean (iz 0)).toInt)) 1 (vp_nar .boolean (iz 0)).toInt)) 21 0 = 0 := hnar
  have ei20_1 : (va_up (va_up (va_up (va_up F 20 (upI (F 20) 0 0)) 21 (upI (F 21) 0 (vp_nar .boolean (iz 0)).toInt)) 20 (upI ((upI (F 20) 0 0)) 1 0)) 21 (upI ((upI (F 21) 0 (vp_nar .boolean (iz 0)).toInt)) 1 (vp_nar .boolean (iz 0)).toInt)) 20 1 = 0 := by first | rfl | simp [va_up, upI]
  have ei21_1 : (va_up (va_up (va_up (va_up F 20 (upI (F 20) 0 0)) 21 (upI (F 21) 0 (vp_nar .boolean (iz 0)).toInt)) 20 (upI ((upI (F 20) 0 0)) 1 0)) 21 (upI ((upI (F 21) 0 (vp_nar .boolean (iz 0)).toInt)) 1 (vp_nar .boolean (iz 0)).toInt)) 21 1 = 0 := hnar
  have lp12 : ∀ (n : Nat) (more : Int) (G : Nat → Int → Int), ((mB I G) ∧ (mfr [] [20, 21, 22, 23, 24] I F I G) ∧ (0 ≤ G 20 0 ∧ G 20 0 ≤ F 5 p0) ∧ (0 ≤ G 20 1 ∧ G 20 1 ≤ F 5 p1) ∧ (more = 0 ∨ more = 1) ∧ (G 21 0 = 0 ∨ G 21 0 = 1) ∧ (G 21 1 = 0 ∨ G 21 1 = 1) ∧ (kf_kbo (kf_sg F p0) (F 5 p0) (I 14) (G 20 0)) ∧ (kf_kbo (kf_sg F p1) (F 5 p1) (I 14) (G 20 1)) ∧ ((more = 1 ∧ LL = kf_lx (kf_kI (kf_sg F p0) (F 5 p0) (I 14) (I 15) (G 20 0) 0 (G 21 0)) (kf_kI (kf_sg F p1) (F 5 p1) (I 14) (I 15) (G 20 1) 0 (G 21 1))) ∨ (more = 0 ∧ LL = 0))) → (2 * (F 5 p0 - G 20 0) + more).toNat < n → ∀ (H : Heap) (locs : List Loc), va_P (dC, dI) kxCl (mW mo ma cs I G) H → va_D A (mW mo ma cs I G) → va_S A s.heap H locs → ∀ ls : Array Slot, lv_has ls 6 [(3, .int (iz more)), (0, .ref mo), (1, .int (iz p0)), (2, .int (iz p1))] → W p l e (headSpec [.code yX6_orderOf cX6_orderOf 6 (some .int)] ({ frames := 2, cells := 0, slots := 0, locals := 47 })).room s m ([.ref mo, .int (iz p0), .int (iz p1)] : List Value).toArray below meth c H locs 0 0 QQ (F0 m 12 ls []) := by
    intro n
    induction n with
    | zero => intro more G hinv hm; exact absurd hm (Nat.not_lt_zero _)
    | succ n ih12 =>
      intro more G hinv hm H locs hP hD hS ls hl
      obtain ⟨hBJ, hfJ, hq0, hq1, hmo, hbg0, hbg1, hbo0, hbo1, hlx⟩ := hinv
      replace hbg0 := fun (_ : Unit) => hbg0
      replace hbg1 := fun (_ : Unit) => hbg1
      replace hlx := fun (_ : Unit) => hlx
      have e5a := congrFun (hfJ.2 5 (by decide)) p0
      have e5b := congrFun (hfJ.2 5 (by decide)) p1
      refine lv_iload_n hx hb dX6_orderOf_12 rfl (lv_at hl 0 rfl) ?_
      refine ki_if_eq (tgt := 61) hx hb dX6_orderOf_13 (by decide) (by omega) (by omega) (fun c_9 => ?_) (fun c_9 => ?_)
      · skip
        have hL0 : LL = 0 := by rcases hlx () with h9 | h9; exact absurd h9.1 (by omega); exact h9.2
        have hsgaG := kf_mSg_fr hsga (hfJ.2 4 (by decide)) (hfJ.2 5 (by decide))
        have hsgbG := kf_mSg_fr hsgb (hfJ.2 4 (by decide)) (hfJ.2 5 (by decide))
        refine lv_iconst (v := iz 0) hx hb dX6_orderOf_61 (by decide) ?_
        refine lv_istore (lv' := [(4, .int (iz 0)), (3, .int (iz more)), (0, .ref mo), (1, .int (iz p0)), (2, .int (iz p1))]) hx hb dX6_orderOf_62 hl (by decide) rfl (fun ls hl => ?_)
        have lp64 : ∀ (n : Nat) (k : Int), ((0 ≤ k ∧ k ≤ G 5 p0 ∧ k ≤ G 5 p1) ∧ (RR = kf_lx (kf_ls (kf_srk G p0) k (G 5 p0 - k).toNat) (kf_ls (kf_srk G p1) k (G 5 p1 - k).toNat))) → (G 5 p0 - k).toNat < n → ∀ (H : Heap) (locs : List Loc), va_P (dC, dI) kxCl (mW mo ma cs I G) H → va_D A (mW mo ma cs I G) → va_S A s.heap H locs → ∀ ls : Array Slot, lv_has ls 6 [(4, .int (iz k)), (3, .int (iz more)), (0, .ref mo), (1, .int (iz p0)), (2, .int (iz p1))] → W p l e (headSpec [.code yX6_orderOf cX6_orderOf 6 (some .int)] ({ frames := 2, cells := 0, slots := 0, locals := 47 })).room s m ([.ref mo, .int (iz p0), .int (iz p1)] : List Value).toArray below meth c H locs 0 0 QQ (F0 m 64 ls []) := by
          intro n
          induction n with
          | zero => intro k hinv hm; exact absurd hm (Nat.not_lt_zero _)
          | succ n ih64 =>
            intro k hinv hm H locs hP hD hS ls hl
            obtain ⟨hk, hrx⟩ := hinv
            refine lv_iload hx hb dX6_orderOf_64 (lv_at hl 0 rfl) ?_
            refine lv_aload_n hx hb dX6_orderOf_66 rfl (lv_at hl 2 rfl) ?_
            refine va_get (D := (dC, dI)) (ci := 6) (v := .ref (ma 5)) (C := RX6) (T := TX6) (N := 44) hx hb hts kt_X6 hown hK hP 0 rfl rfl 5 (by decide) (kx_word hG kq_04_msmall_15 rfl) (fun _ h9 => h9) rfl dX6_orderOf_67 ?_
            refine lv_iload_n hx hb dX6_orderOf_70 rfl (lv_at hl 3 rfl) ?_
            refine ki_iald (F := G 5) hx hb hK hP 4 3 rfl rfl (by omega) (by omega) (by decide) dX6_orderOf_71 ?_
            have hbd_10 := hBJ.2 5 p0
            refine ki_icmp_ge (tgt := 129) hx hb dX6_orderOf_72 (by decide) (by omega) (by omega) (by omega) (by omega) (fun c_11 => ?_) (fun c_11 => ?_)
            · skip
              refine lv_aload_n hx hb dX6_orderOf_129 rfl (lv_at hl 2 rfl) ?_
              refine va_get (D := (dC, dI)) (ci := 6) (v := .ref (ma 5)) (C := RX6) (T := TX6) (N := 44) hx hb hts kt_X6 hown hK hP 0 rfl rfl 5 (by decide) (kx_word hG kq_04_msmall_15 rfl) (fun _ h9 => h9) rfl dX6_orderOf_130 ?_
              refine lv_iload_n hx hb dX6_orderOf_133 rfl (lv_at hl 3 rfl) ?_
              refine ki_iald (F := G 5) hx hb hK hP 4 3 rfl rfl (by omega) (by omega) (by decide) dX6_orderOf_134 ?_
              refine lv_aload_n hx hb dX6_orderOf_135 rfl (lv_at hl 2 rfl) ?_
              refine va_get (D := (dC, dI)) (ci := 6) (v := .ref (ma 5)) (C := RX6) (T := TX6) (N := 44) hx hb hts kt_X6 hown hK hP 0 rfl rfl 5 (by decide) (kx_word hG kq_04_msmall_15 rfl) (fun _ h9 => h9) rfl dX6_orderOf_136 ?_
              refine lv_iload_n hx hb dX6_orderOf_139 rfl (lv_at hl 4 rfl) ?_
              refine ki_iald (F := G 5) hx hb hK hP 4 3 rfl rfl (by omega) (by omega) (by decide) dX6_orderOf_140 ?_
              have hbd_12 := hBJ.2 5 p1
              refine ki_icmp_ge (tgt := 148) hx hb dX6_orderOf_141 (by decide) (by omega) (by omega) (by omega) (by omega) (fun c_13 => ?_) (fun c_13 => ?_)
              · skip
                refine lv_aload_n hx hb dX6_orderOf_148 rfl (lv_at hl 2 rfl) ?_
                refine va_get (D := (dC, dI)) (ci := 6) (v := .ref (ma 5)) (C := RX6) (T := TX6) (N := 44) hx hb hts kt_X6 hown hK hP 0 rfl rfl 5 (by decide) (kx_word hG kq_04_msmall_15 rfl) (fun _ h9 => h9) rfl dX6_orderOf_149 ?_
                refine lv_iload_n hx hb dX6_orderOf_152 rfl (lv_at hl 3 rfl) ?_
                refine ki_iald (F := G 5) hx hb hK hP 4 3 rfl rfl (by omega) (by omega) (by decide) dX6_orderOf_153 ?_
                refine lv_aload_n hx hb dX6_orderOf_154 rfl (lv_at hl 2 rfl) ?_
                refine va_get (D := (dC, dI)) (ci := 6) (v := .ref (ma 5)) (C := RX6) (T := TX6) (N := 44) hx hb hts kt_X6 hown hK hP 0 rfl rfl 5 (by decide) (kx_word hG kq_04_msmall_15 rfl) (fun _ h9 => h9) rfl dX6_orderOf_155 ?_
                refine lv_iload_n hx hb dX6_orderOf_158 rfl (lv_at hl 4 rfl) ?_
                refine ki_iald (F := G 5) hx hb hK hP 4 3 rfl rfl (by omega) (by omega) (by decide) dX6_orderOf_159 ?_
                refine ki_icmp_le (tgt := 167) hx hb dX6_orderOf_160 (by decide) (by omega) (by omega) (by omega) (by omega) (fun c_14 => ?_) (fun c_14 => ?_)
                · skip
                  refine lv_iconst (v := iz 0) hx hb dX6_orderOf_167 (by decide) ?_
                  rw [← hQe]
                  exact mk_ireti hx hb hr hlocks hP hD hK hS dX6_orderOf_168 (⟨rfl, hBJ, hfJ, by omega, kf_oc_eq hLL hL0 hRR (by rw [hrx, kf_lx_end (by omega) (by omega) (by omega)]; first | (exfalso; omega) | (rw [if_pos (by omega)]) | (rw [if_neg (by omega), if_pos (by omega)]) | (rw [if_neg (by omega), if_neg (by omega)]))⟩)
                · skip
                  refine lv_iconst (v := iz 1) hx hb dX6_orderOf_163 (by decide) ?_
                  refine lv_goto (tgt := 168) hx hb dX6_orderOf_164 (by decide) ?_
                  rw [← hQe]
                  exact mk_ireti hx hb hr hlocks hP hD hK hS dX6_orderOf_168 (⟨rfl, hBJ, hfJ, by omega, kf_oc_eq hLL hL0 hRR (by rw [hrx, kf_lx_end (by omega) (by omega) (by omega)]; first | (exfalso; omega) | (rw [if_pos (by omega)]) | (rw [if_neg (by omega), if_pos (by omega)]) | (rw [if_neg (by omega), if_neg (by omega)]))⟩)
              · skip
                refine lv_iconst (v := iz (-1)) hx hb dX6_orderOf_144 (by decide) ?_
                refine lv_goto (tgt := 168) hx hb dX6_orderOf_145 (by decide) ?_
                rw [← hQe]
                exact mk_ireti hx hb hr hlocks hP hD hK hS dX6_orderOf_168 (⟨rfl, hBJ, hfJ, by omega, kf_oc_eq hLL hL0 hRR (by rw [hrx, kf_lx_end (by omega) (by omega) (by omega)]; first | (exfalso; omega) | (rw [if_pos (by omega)]) | (rw [if_neg (by omega), if_pos (by omega)]) | (rw [if_neg (by omega), if_neg (by omega)]))⟩)
            · skip
              refine lv_iload hx hb dX6_orderOf_75 (lv_at hl 0 rfl) ?_
              refine lv_aload_n hx hb dX6_orderOf_77 rfl (lv_at hl 2 rfl) ?_
              refine va_get (D := (dC, dI)) (ci := 6) (v := .ref (ma 5)) (C := RX6) (T := TX6) (N := 44) hx hb hts kt_X6 hown hK hP 0 rfl rfl 5 (by decide) (kx_word hG kq_04_msmall_15 rfl) (fun _ h9 => h9) rfl dX6_orderOf_78 ?_
              refine lv_iload_n hx hb dX6_orderOf_81 rfl (lv_at hl 4 rfl) ?_
              refine ki_iald (F := G 5) hx hb hK hP 4 3 rfl rfl (by omega) (by omega) (by decide) dX6_orderOf_82 ?_
              have hbd_15 := hBJ.2 5 p1
              refine ki_icmp_ge (tgt := 129) hx hb dX6_orderOf_83 (by decide) (by omega) (by omega) (by omega) (by omega) (fun c_16 => ?_) (fun c_16 => ?_)
              · skip
                refine lv_aload_n hx hb dX6_orderOf_129 rfl (lv_at hl 2 rfl) ?_
                refine va_get (D := (dC, dI)) (ci := 6) (v := .ref (ma 5)) (C := RX6) (T := TX6) (N := 44) hx hb hts kt_X6 hown hK hP 0 rfl rfl 5 (by decide) (kx_word hG kq_04_msmall_15 rfl) (fun _ h9 => h9) rfl dX6_orderOf_130 ?_
                refine lv_iload_n hx hb dX6_orderOf_133 rfl (lv_at hl 3 rfl) ?_
                refine ki_iald (F := G 5) hx hb hK hP 4 3 rfl rfl (by omega) (by omega) (by decide) dX6_orderOf_134 ?_
                refine lv_aload_n hx hb dX6_orderOf_135 rfl (lv_at hl 2 rfl) ?_
                refine va_get (D := (dC, dI)) (ci := 6) (v := .ref (ma 5)) (C := RX6) (T := TX6) (N := 44) hx hb hts kt_X6 hown hK hP 0 rfl rfl 5 (by decide) (kx_word hG kq_04_msmall_15 rfl) (fun _ h9 => h9) rfl dX6_orderOf_136 ?_
                refine lv_iload_n hx hb dX6_orderOf_139 rfl (lv_at hl 4 rfl) ?_
                refine ki_iald (F := G 5) hx hb hK hP 4 3 rfl rfl (by omega) (by omega) (by decide) dX6_orderOf_140 ?_
                refine ki_icmp_ge (tgt := 148) hx hb dX6_orderOf_141 (by decide) (by omega) (by omega) (by omega) (by omega) (fun c_17 => ?_) (fun c_17 => ?_)
                · skip
                  refine lv_aload_n hx hb dX6_orderOf_148 rfl (lv_at hl 2 rfl) ?_
                  refine va_get (D := (dC, dI)) (ci := 6) (v := .ref (ma 5)) (C := RX6) (T := TX6) (N := 44) hx hb hts kt_X6 hown hK hP 0 rfl rfl 5 (by decide) (kx_word hG kq_04_msmall_15 rfl) (fun _ h9 => h9) rfl dX6_orderOf_149 ?_
                  refine lv_iload_n hx hb dX6_orderOf_152 rfl (lv_at hl 3 rfl) ?_
                  refine ki_iald (F := G 5) hx hb hK hP 4 3 rfl rfl (by omega) (by omega) (by decide) dX6_orderOf_153 ?_
                  refine lv_aload_n hx hb dX6_orderOf_154 rfl (lv_at hl 2 rfl) ?_
                  refine va_get (D := (dC, dI)) (ci := 6) (v := .ref (ma 5)) (C := RX6) (T := TX6) (N := 44) hx hb hts kt_X6 hown hK hP 0 rfl rfl 5 (by decide) (kx_word hG kq_04_msmall_15 rfl) (fun _ h9 => h9) rfl dX6_orderOf_155 ?_
                  refine lv_iload_n hx hb dX6_orderOf_158 rfl (lv_at hl 4 rfl) ?_
                  refine ki_iald (F := G 5) hx hb hK hP 4 3 rfl rfl (by omega) (by omega) (by decide) dX6_orderOf_159 ?_
                  refine ki_icmp_le (tgt := 167) hx hb dX6_orderOf_160 (by decide) (by omega) (by omega) (by omega) (by omega) (fun c_18 => ?_) (fun c_18 => ?_)
                  · skip
                    refine lv_iconst (v := iz 0) hx hb dX6_orderOf_167 (by decide) ?_
                    rw [← hQe]
                    exact mk_ireti hx hb hr hlocks hP hD hK hS dX6_orderOf_168 (⟨rfl, hBJ, hfJ, by omega, kf_oc_eq hLL hL0 hRR (by rw [hrx, kf_lx_end (by omega) (by omega) (by omega)]; first | (exfalso; omega) | (rw [if_pos (by omega)]) | (rw [if_neg (by omega), if_pos (by omega)]) | (rw [if_neg (by omega), if_neg (by omega)]))⟩)
                  · skip
                    refine lv_iconst (v := iz 1) hx hb dX6_orderOf_163 (by decide) ?_
                    refine lv_goto (tgt := 168) hx hb dX6_orderOf_164 (by decide) ?_
                    rw [← hQe]
                    exact mk_ireti hx hb hr hlocks hP hD hK hS dX6_orderOf_168 (⟨rfl, hBJ, hfJ, by omega, kf_oc_eq hLL hL0 hRR (by rw [hrx, kf_lx_end (by omega) (by omega) (by omega)]; first | (exfalso; omega) | (rw [if_pos (by omega)]) | (rw [if_neg (by omega), if_pos (by omega)]) | (rw [if_neg (by omega), if_neg (by omega)]))⟩)
                · skip
                  refine lv_iconst (v := iz (-1)) hx hb dX6_orderOf_144 (by decide) ?_
                  refine lv_goto (tgt := 168) hx hb dX6_orderOf_145 (by decide) ?_
                  rw [← hQe]
                  exact mk_ireti hx hb hr hlocks hP hD hK hS dX6_orderOf_168 (⟨rfl, hBJ, hfJ, by omega, kf_oc_eq hLL hL0 hRR (by rw [hrx, kf_lx_end (by omega) (by omega) (by omega)]; first | (exfalso; omega) | (rw [if_pos (by omega)]) | (rw [if_neg (by omega), if_pos (by omega)]) | (rw [if_neg (by omega), if_neg (by omega)]))⟩)
              · skip
                refine lv_aload_n hx hb dX6_orderOf_86 rfl (lv_at hl 2 rfl) ?_
                refine va_get (D := (dC, dI)) (ci := 6) (v := .ref (ma 4)) (C := RX6) (T := TX6) (N := 44) hx hb hts kt_X6 hown hK hP 0 rfl rfl 4 (by decide) (kx_word hG kq_04_msmall_16 rfl) (fun _ h9 => h9) rfl dX6_orderOf_87 ?_
                refine lv_bipush (v := iz 20) hx hb dX6_orderOf_90 (by decide) ?_
                refine lv_iload_n hx hb dX6_orderOf_92 rfl (lv_at hl 3 rfl) ?_
                refine ki_imul hx hb dX6_orderOf_93 ?_
                refine lv_iload hx hb dX6_orderOf_94 (lv_at hl 0 rfl) ?_
                refine ki_iadd hx hb dX6_orderOf_96 ?_
                refine ki_iald (F := G 4) hx hb hK hP 3 2 rfl rfl (by omega) (by omega) (by decide) dX6_orderOf_97 ?_
                have hbd_19 := hBJ.2 4 ((20 * p0) + k)
                refine lv_aload_n hx hb dX6_orderOf_98 rfl (lv_at hl 2 rfl) ?_
                refine va_get (D := (dC, dI)) (ci := 6) (v := .ref (ma 4)) (C := RX6) (T := TX6) (N := 44) hx hb hts kt_X6 hown hK hP 0 rfl rfl 4 (by decide) (kx_word hG kq_04_msmall_16 rfl) (fun _ h9 => h9) rfl dX6_orderOf_99 ?_
                refine lv_bipush (v := iz 20) hx hb dX6_orderOf_102 (by decide) ?_
                refine lv_iload_n hx hb dX6_orderOf_104 rfl (lv_at hl 4 rfl) ?_
                refine ki_imul hx hb dX6_orderOf_105 ?_
                refine lv_iload hx hb dX6_orderOf_106 (lv_at hl 0 rfl) ?_
                refine ki_iadd hx hb dX6_orderOf_108 ?_
                refine ki_iald (F := G 4) hx hb hK hP 3 2 rfl rfl (by omega) (by omega) (by decide) dX6_orderOf_109 ?_
                have hbd_20 := hBJ.2 4 ((20 * p1) + k)
                refine mk_calls (As := [.int (iz (G 4 ((20 * p0) + k))), .int (iz (G 4 ((20 * p1) + k)))]) (rest := []) ⟨hx, hb, hml, hown, hts⟩ (k_signsDiffer2 l dC dI (G 4 ((20 * p0) + k)) (G 4 ((20 * p1) + k)) H.size (by omega) (by omega) (by omega) (by omega) (hsgaG k (by omega) (by omega)) (hsgbG k (by omega) (by omega))) (va_cwS 2 hts (kx_gS kq_06_mway_4 kq_06_mway_5 kq_04_msmall_6 kq_06_mway_6 rfl) rfl rfl rfl (by decide +kernel) ⟨Nat.le_of_ble_eq_true rfl, Nat.le_of_ble_eq_true rfl⟩) hP hD hK hG hZ hS hA rfl hl.1 rfl (Nat.le_of_ble_eq_true rfl) dX6_orderOf_110 ⟨Nat.le_of_ble_eq_true rfl, Nat.le_of_ble_eq_true rfl⟩ (fun z_21 H locs hq_22 hP hS => ?_)
                try dsimp only at hq_22
                have hs0 : kf_srk G p0 k = kf_rk (G 4 ((20 * p0) + k)) := rfl
                have hs1 : kf_srk G p1 k = kf_rk (G 4 ((20 * p1) + k)) := rfl
                have hst9 := kf_lx_step (F := kf_srk G p0) (G := kf_srk G p1) (k := k) (z := G 5 p0) (w := G 5 p1) (by omega) (by omega)
                have hsd9 := hq_22
                refine lv_istore (lv' := [(5, .int (iz z_21)), (4, .int (iz k)), (3, .int (iz more)), (0, .ref mo), (1, .int (iz p0)), (2, .int (iz p1))]) hx hb dX6_orderOf_113 hl (by decide) rfl (fun ls hl => ?_)
                refine lv_iload hx hb dX6_orderOf_115 (lv_at hl 0 rfl) ?_
                refine ki_if_eq (tgt := 123) hx hb dX6_orderOf_117 (by decide) (by omega) (by omega) (fun c_23 => ?_) (fun c_23 => ?_)
                · skip
                  refine lv_iinc (v := iz (k + 1)) (lv' := [(4, .int (iz (k + 1))), (5, .int (iz z_21)), (3, .int (iz more)), (0, .ref mo), (1, .int (iz p0)), (2, .int (iz p1))]) hx hb dX6_orderOf_123 hl (k := 1) rfl (iz_add k 1) (by decide) rfl (fun ls hl => ?_)
                  refine lv_goto (tgt := 64) hx hb dX6_orderOf_126 (by decide) ?_
                  exact ih64 (k + 1) ⟨by omega, hrx.trans (hst9.trans (if_pos (by omega)))⟩ (by omega) _ _ hP hD hS ls (lv_sub hl [0, 2, 3, 4, 5] rfl)
                · skip
                  refine lv_iload hx hb dX6_orderOf_120 (lv_at hl 0 rfl) ?_
                  rw [← hQe]
                  exact mk_ireti hx hb hr hlocks hP hD hK hS dX6_orderOf_122 (⟨rfl, hBJ, hfJ, by omega, kf_oc_eq hLL hL0 hRR (by rcases hsd9 with h9 | h9 | h9; (rw [hrx, hst9, if_neg (by omega), if_pos (by omega)]; omega); (rw [hrx, hst9, if_neg (by omega), if_neg (by omega)]; omega); (exfalso; omega))⟩)
        exact lp64 _ 0 ⟨by omega, by rw [hRR]; unfold kf_rks; rw [kf_srk_fr (hfJ.2 4 (by decide)), kf_srk_fr (hfJ.2 4 (by decide)), e5a, e5b, Int.sub_zero, Int.sub_zero]⟩ (Nat.lt_succ_self _) _ _ hP hD hS ls (lv_sub hl [0, 1, 2, 3, 4] rfl)
      · skip
        have hl1 : LL = kf_lx (kf_kI (kf_sg F p0) (F 5 p0) (I 14) (I 15) (G 20 0) 0 (G 21 0)) (kf_kI (kf_sg F p1) (F 5 p1) (I 14) (I 15) (G 20 1) 0 (G 21 1)) := by rcases hlx () with h9 | h9; exact h9.2; exact absurd h9.1 (by omega)
        refine lv_aload_n hx hb dX6_orderOf_16 rfl (lv_at hl 1 rfl) ?_
        refine lv_iconst (v := iz 0) hx hb dX6_orderOf_17 (by decide) ?_
        refine lv_iload_n hx hb dX6_orderOf_18 rfl (lv_at hl 2 rfl) ?_
        refine mk_callv (As := [.int (iz 0), .int (iz p0)]) (rest := []) ⟨hx, hb, hml, hown, hts⟩ (k_step2 l dC dI mo ma cs I G 0 p0 H.size hBJ (by omega) h0 (fun e => by rw [hfJ.2 5 (by decide)]; exact hn e) (by omega) (kf_mSg_fr hsga (hfJ.2 4 (by decide)) (hfJ.2 5 (by decide))) (hdg ()) (hwd ()) (hbg0 ()) (by rw [kf_sg_fr (hfJ.2 4 (by decide)), congrFun (hfJ.2 5 (by decide)) p0]; exact hbo0)) (cwV 2 hts (kx_gV kq_06_mway_7 kq_06_mway_8 kq_06_mway_9 kq_04_msmall_6 kq_06_mway_10 rfl) rfl rfl rfl (by decide +kernel) ⟨Nat.le_of_ble_eq_true rfl, Nat.le_of_ble_eq_true rfl⟩) hP hD hK hG hZ hS hA rfl hl.1 rfl (Nat.le_of_ble_eq_true rfl) dX6_orderOf_19 ⟨Nat.le_of_ble_eq_true rfl, Nat.le_of_ble_eq_true rfl⟩ (fun I_26 F_27 H locs hq_25 hP hD hS => ?_)
        try dsimp only at hq_25
        obtain ⟨rfl, hB28, hf28, ho28, hp28, ht28, hu28, hk28, hg28, hn28, hb28, he28⟩ := hq_25
        rw [kf_sg_fr (hfJ.2 4 (by decide)), congrFun (hfJ.2 5 (by decide)) p0] at hb28 he28
        rw [hfJ.2 4 (by decide)] at he28
        rw [congrFun (hfJ.2 5 (by decide)) p0] at hn28
        have hfa := hfJ.tr hf28
        have e0a : F_27 20 1 = G 20 1 := ho28 20 1 (by decide)
        have e0c : F_27 21 1 = G 21 1 := ho28 21 1 (by decide)
        have e0b := congrFun (hfa.2 5 (by decide)) p1
        replace hu28 := fun (_ : Unit) => hu28
        replace hn28 := fun (_ : Unit) => hn28
        replace hg28 := fun (_ : Unit) => hg28
        refine lv_aload_n hx hb dX6_orderOf_22 rfl (lv_at hl 1 rfl) ?_
        refine lv_iconst (v := iz 1) hx hb dX6_orderOf_23 (by decide) ?_
        refine lv_iload_n hx hb dX6_orderOf_24 rfl (lv_at hl 3 rfl) ?_
        refine mk_callv (As := [.int (iz 1), .int (iz p1)]) (rest := []) ⟨hx, hb, hml, hown, hts⟩ (k_step2 l dC dI mo ma cs I F_27 1 p1 H.size hB28 (by omega) h1 (fun e => by rw [hfa.2 5 (by decide)]; exact hn e) (by omega) (kf_mSg_fr hsgb (hfa.2 4 (by decide)) (hfa.2 5 (by decide))) (hdg ()) (hwd ()) (by rw [e0c]; exact hbg1 ()) (by rw [kf_sg_fr (hfa.2 4 (by decide)), e0b, e0a]; exact hbo1)) (cwV 2 hts (kx_gV kq_06_mway_7 kq_06_mway_8 kq_06_mway_9 kq_04_msmall_6 kq_06_mway_10 rfl) rfl rfl rfl (by decide +kernel) ⟨Nat.le_of_ble_eq_true rfl, Nat.le_of_ble_eq_true rfl⟩) hP hD hK hG hZ hS hA rfl hl.1 rfl (Nat.le_of_ble_eq_true rfl) dX6_orderOf_25 ⟨Nat.le_of_ble_eq_true rfl, Nat.le_of_ble_eq_true rfl⟩ (fun I_31 F_32 H locs hq_30 hP hD hS => ?_)
        try dsimp only at hq_30
        obtain ⟨rfl, hB33, hf33, ho33, hp33, ht33, hu33, hk33, hg33, hn33, hb33, he33⟩ := hq_30
        rw [kf_sg_fr (hfa.2 4 (by decide)), e0b] at hb33 he33
        rw [hfa.2 4 (by decide), e0a, e0c] at he33
        rw [e0b] at hn33
        have hfb := hfa.tr hf33
        have e120 : F_32 20 0 = F_27 20 0 := ho33 20 0 (by decide)
        have e121 : F_32 21 0 = F_27 21 0 := ho33 21 0 (by decide)
        have e122 : F_32 22 0 = F_27 22 0 := ho33 22 0 (by decide)
        have e123 : F_32 23 0 = F_27 23 0 := ho33 23 0 (by decide)
        have e124 : F_32 24 0 = F_27 24 0 := ho33 24 0 (by decide)
        replace hu33 := fun (_ : Unit) => hu33
        replace hn33 := fun (_ : Unit) => hn33
        replace hg33 := fun (_ : Unit) => hg33
        refine lv_aload_n hx hb dX6_orderOf_28 rfl (lv_at hl 1 rfl) ?_
        refine mk_calli (As := []) (rest := []) ⟨hx, hb, hml, hown, hts⟩ (k_unitsDiffer2 l dC dI mo ma cs I F_32  H.size hB33 (by rw [e122, e123, e124]; exact hu28 ()) (hu33 ()) (by rw [e122, e123, e124]; exact hk28) hk33) (cwV 0 hts (kx_gV kq_06_mway_11 kq_06_mway_12 kq_06_mway_13 kq_04_msmall_6 kq_06_mway_14 rfl) rfl rfl rfl (by decide +kernel) ⟨Nat.le_of_ble_eq_true rfl, Nat.le_of_ble_eq_true rfl⟩) hP hD hK hG hZ hS hA rfl hl.1 rfl (Nat.le_of_ble_eq_true rfl) dX6_orderOf_29 ⟨Nat.le_of_ble_eq_true rfl, Nat.le_of_ble_eq_true rfl⟩ (fun z_34 I_36 F_37 H locs hq_35 hP hD hS => ?_)
        try dsimp only at hq_35
        obtain ⟨rfl, rfl, hq_35⟩ := hq_35
        obtain ⟨hrb, hud⟩ := hq_35
        rw [hfb.2 4 (by decide), e122, e123, e124] at hud
        have hgo := kf_ud_go hud he28 he33 hl1 (fun h9 => kf_kI_end (kf_sg F p0) (F 5 p0) (I 14) (I 15) _ _ _ (by have h8 := hn28 () h9; omega)) (fun h9 => kf_kI_end (kf_sg F p1) (F 5 p1) (I 14) (I 15) _ _ _ (by have h8 := hn33 () h9; omega))
        replace hgo := fun (_ : Unit) => hgo
        refine lv_istore (lv' := [(4, .int (iz z_34)), (3, .int (iz more)), (0, .ref mo), (1, .int (iz p0)), (2, .int (iz p1))]) hx hb dX6_orderOf_32 hl (by decide) rfl (fun ls hl => ?_)
        refine lv_iload hx hb dX6_orderOf_34 (lv_at hl 0 rfl) ?_
        refine ki_if_eq (tgt := 42) hx hb dX6_orderOf_36 (by decide) (by omega) (by omega) (fun c_38 => ?_) (fun c_38 => ?_)
        · skip
          refine lv_aload_n hx hb dX6_orderOf_42 rfl (lv_at hl 2 rfl) ?_
          refine va_get (D := (dC, dI)) (ci := 6) (v := .ref (ma 22)) (C := RX6) (T := TX6) (N := 44) hx hb hts kt_X6 hown hK hP 0 rfl rfl 22 (by decide) (kx_word hG kq_05_morder_2 rfl) (fun _ h9 => h9) rfl dX6_orderOf_43 ?_
          refine lv_iconst (v := iz 0) hx hb dX6_orderOf_46 (by decide) ?_
          refine ki_iald (F := F_32 22) hx hb hK hP 17 16 rfl rfl (by omega) (by omega) (by decide) dX6_orderOf_47 ?_
          have hbd_39 := hB33.2 22 0
          refine lv_iconst (v := iz (-1)) hx hb dX6_orderOf_48 (by decide) ?_
          refine ki_icmp_eq (tgt := 56) hx hb dX6_orderOf_49 (by decide) (by omega) (by omega) (by omega) (by omega) (fun c_40 => ?_) (fun c_40 => ?_)
          · skip
            refine lv_iconst (v := iz 0) hx hb dX6_orderOf_56 (by decide) ?_
            refine lv_istore_n (lv' := [(3, .int (iz 0)), (4, .int (iz z_34)), (0, .ref mo), (1, .int (iz p0)), (2, .int (iz p1))]) hx hb dX6_orderOf_57 rfl hl (by decide) rfl (fun ls hl => ?_)
            refine lv_goto (tgt := 12) hx hb dX6_orderOf_58 (by decide) ?_
            exact ih12 0 F_32 ⟨hB33, hfb, by omega, by omega, by omega, (by rw [e121]; exact hg28 ()), hg33 (), (by rw [e120]; exact hb28), hb33, Or.inr ⟨rfl, ((hgo ()).2 (by omega)).1 (by omega)⟩⟩ (by omega) _ _ hP hD hS ls (lv_sub hl [0, 2, 3, 4] rfl)
          · skip
            refine lv_iconst (v := iz 1) hx hb dX6_orderOf_52 (by decide) ?_
            refine lv_goto (tgt := 57) hx hb dX6_orderOf_53 (by decide) ?_
            refine lv_istore_n (lv' := [(3, .int (iz 1)), (4, .int (iz z_34)), (0, .ref mo), (1, .int (iz p0)), (2, .int (iz p1))]) hx hb dX6_orderOf_57 rfl hl (by decide) rfl (fun ls hl => ?_)
            refine lv_goto (tgt := 12) hx hb dX6_orderOf_58 (by decide) ?_
            exact ih12 1 F_32 ⟨hB33, hfb, by omega, by omega, by omega, (by rw [e121]; exact hg28 ()), hg33 (), (by rw [e120]; exact hb28), hb33, Or.inl ⟨rfl, by rw [e120, e121]; exact ((hgo ()).2 (by omega)).2⟩⟩ (by omega) _ _ hP hD hS ls (lv_sub hl [0, 2, 3, 4] rfl)
        · skip
          refine lv_iload hx hb dX6_orderOf_39 (lv_at hl 0 rfl) ?_
          rw [← hQe]
          exact mk_ireti hx hb hr hlocks hP hD hK hS dX6_orderOf_41 (⟨rfl, hB33, hfb, by omega, kf_oc_ne hLL ((hgo ()).1 (by omega)) (by omega)⟩)
  exact lp12 _ 1 (va_up (va_up (va_up (va_up F 20 (upI (F 20) 0 0)) 21 (upI (F 21) 0 (vp_nar .boolean (iz 0)).toInt)) 20 (upI ((upI (F 20) 0 0)) 1 0)) 21 (upI ((upI (F 21) 0 (vp_nar .boolean (iz 0)).toInt)) 1 (vp_nar .boolean (iz 0)).toInt)) ⟨(mB_f (mB_f (mB_f (mB_f hB 20 0 (by omega) (by omega)) 21 0 (iz_lo _) (iz_hi _)) 20 1 (by omega) (by omega)) 21 1 (iz_lo _) (iz_hi _)), (mfr.upF (mfr.upF (mfr.upF (mfr.upF mfr.rf (by decide) _) (by decide) _) (by decide) _) (by decide) _), by omega, by omega, by omega, Or.inl ei21_0, Or.inl ei21_1, (by rw [ei20_0]; exact Or.inr (by omega)), (by rw [ei20_1]; exact Or.inr (by omega)), Or.inl ⟨rfl, by rw [hLL, ei20_0, ei20_1, ei21_0, ei21_1]; rfl⟩⟩ (Nat.lt_succ_self _) _ _ hP hD hS ls (lv_sub hl [0, 1, 2, 3] rfl)
set_option maxHeartbeats 4000000 in
set_option maxRecDepth 100000 in
theorem k_compare2 (l : Launch) (dC : Nat → ClassId) (dI : Nat → Nat → Nat) (mo : Nat) (ma : Nat → Nat) (cs : Nat → ClassId) (I : Nat → Int) (F : Nat → Int → Int) (p0 : Int) (p1 : Int) (sz : Nat) (hI : mIv I F) (hp01 : -2147483648 ≤ p0) (hp02 : p0 < 2147483648) (hp11 : -2147483648 ≤ p1) (hp12 : p1 < 2147483648) (hsgs : ∀ e, 0 ≤ e → e < I 1 → kf_mSg F e) (hdg : I 14 = 0 ∨ I 14 = 1) (hwd : I 15 = 0 ∨ I 15 = 1) : mMi l yX6_compare (.code yX6_compare cX6_compare 3 (some .int)) 3 72 dC dI mo ma cs I F [.ref mo, .int (iz p0), .int (iz p1)] sz (fun (r : Int) (I' : Nat → Int) (F' : Nat → Int → Int) => mWk I F I' F' ∧ ((I' 0 = 1 ∧ ¬ ((0 ≤ p0 ∧ p0 < I 1) ∧ (0 ≤ p1 ∧ p1 < I 1))) ∨ (I' 0 = 0 ∧ ((0 ≤ p0 ∧ p0 < I 1) ∧ (0 ≤ p1 ∧ p1 < I 1)) ∧ r = kf_oc I F p0 p1))) := by
  refine Met.ofW (cc := cX6_compare) (maxL := 3) (ret := (some .int)) (by decide) rfl ?_
  intro p e s m args below meth c s₁ B hml hv
  obtain ⟨rfl, hsz, hP, hK, hD0, hG, hZ⟩ := hv
  have hx := B.exec
  have hb := B.bytes
  have hr := B.returns
  have hts := kx_hts (a := ([.ref mo, .int (iz p0), .int (iz p1)] : List Value).toArray) hG
  have hown : s.vm.findClass RX6 = some m.cls := findClass_of_methodNamed B.named
  have hlocks := B.notSynchronized
  subst hsz
  have hD := hD0.self (sz := s.heap.size)
  generalize hAe : va_A (mW mo ma cs I F) s.heap.size = A at hD hZ ⊢
  have hA : ∀ q : Nat, s.heap.size ≤ q → A q := fun q h => by rw [← hAe]; exact Or.inr h
  have hS : va_S A s.heap s.heap [] := va_S.rf
  have hl := lv_entry ([.ref mo, .int (iz p0), .int (iz p1)]) (n := 3) (Nat.le_of_ble_eq_true rfl)
  rw [lg_entry_eq]
  generalize (lg_sl ([.ref mo, .int (iz p0), .int (iz p1)]) ++ List.replicate (3 - (lg_sl ([.ref mo, .int (iz p0), .int (iz p1)])).length) Slot.unset).toArray = ls at hl ⊢
  have hl : lv_has ls 3 [(0, .ref mo), (1, .int (iz p0)), (2, .int (iz p1))] := hl
  have hW0 : mWk I F I F := mWk.rf hI
  have hc0 := hI.hc
  refine lv_aload_n hx hb dX6_compare_0 rfl (lv_at hl 0 rfl) ?_
  refine lv_aload_n hx hb dX6_compare_1 rfl (lv_at hl 0 rfl) ?_
  refine lv_iload_n hx hb dX6_compare_2 rfl (lv_at hl 1 rfl) ?_
  refine mk_calli (As := [.int (iz p0)]) (rest := [.ref mo]) ⟨hx, hb, hml, hown, hts⟩ (k_isNone l dC dI mo ma cs I F p0 s.heap.size hI.hB (by omega) (by omega)) (cwV 1 hts (kx_gV kq_04_msmall_3 kq_04_msmall_4 kq_04_msmall_5 kq_04_msmall_6 kq_04_msmall_7 rfl) rfl rfl rfl (by decide +kernel) ⟨Nat.le_of_ble_eq_true rfl, Nat.le_of_ble_eq_true rfl⟩) hP hD hK hG hZ hS hA rfl hl.1 rfl (Nat.le_of_ble_eq_true rfl) dX6_compare_3 ⟨Nat.le_of_ble_eq_true rfl, Nat.le_of_ble_eq_true rfl⟩ (fun z_1 I_3 F_4 H locs hq_2 hP hD hS => ?_)
  try dsimp only at hq_2
  obtain ⟨rfl, rfl, hq_2⟩ := hq_2
  rcases hq_2 with ⟨rfl, hq_2⟩ | ⟨rfl, hq_2⟩
  · skip
    refine ki_if_ne (tgt := 17) hx hb dX6_compare_6 (by decide) (by omega) (by omega) (fun c_5 => ?_) (fun c_5 => ?_)
    · skip
      refine lv_iconst (v := iz 1) hx hb dX6_compare_17 (by decide) ?_
      refine lv_goto (tgt := 22) hx hb dX6_compare_18 (by decide) ?_
      refine lv_iconst (v := iz 0) hx hb dX6_compare_22 (by decide) ?_
      refine lv_iconst (v := iz 0) hx hb dX6_compare_23 (by decide) ?_
      refine mk_calli (As := [.int (iz 1), .int (iz 0), .int (iz 0)]) (rest := []) ⟨hx, hb, hml, hown, hts⟩ (k_refused1 l dC dI mo ma cs I F 0 0 H.size (by omega) (by omega) (by omega) (by omega)) (cwV 3 hts (kx_gV kq_04_msmall_8 kq_04_msmall_9 kq_04_msmall_10 kq_04_msmall_6 kq_04_msmall_11 rfl) rfl rfl rfl (by decide +kernel) ⟨Nat.le_of_ble_eq_true rfl, Nat.le_of_ble_eq_true rfl⟩) hP hD hK hG hZ hS hA rfl hl.1 rfl (Nat.le_of_ble_eq_true rfl) dX6_compare_24 ⟨Nat.le_of_ble_eq_true rfl, Nat.le_of_ble_eq_true rfl⟩ (fun z_6 I_8 F_9 H locs hq_7 hP hD hS => ?_)
      try dsimp only at hq_7
      obtain ⟨rfl, rfl, rfl⟩ := hq_7
      refine ki_if_eq (tgt := 34) hx hb dX6_compare_27 (by decide) (by omega) (by omega) (fun c_10 => ?_) (fun c_10 => ?_)
      · omega
      · skip
        refine lv_iconst (v := iz 0) hx hb dX6_compare_30 (by decide) ?_
        refine lv_goto (tgt := 40) hx hb dX6_compare_31 (by decide) ?_
        have hk11 : mWk _ _ (va_up I 0 1) F ∧ _ := mWk.thr hI (v := 1) (by omega)
        have hI11 : mIv (va_up I 0 1) F := hI.go hk11.1
        have hw11 : mWk _ _ (va_up I 0 1) F := hW0.tr hk11.1
        have e1611 : (va_up I 0 1) 16 = _ := hk11.2.1
        have e1911 : (va_up I 0 1) 19 = _ := hk11.2.2
        have e111 : (va_up I 0 1) 1 = _ := hk11.1.2.1.1 1 (by decide)
        exact mk_ireti hx hb hr hlocks hP hD hK hS dX6_compare_40 (⟨hw11, Or.inl ⟨rfl, by omega⟩⟩)
    · omega
  · skip
    refine ki_if_ne (tgt := 17) hx hb dX6_compare_6 (by decide) (by omega) (by omega) (fun c_12 => ?_) (fun c_12 => ?_)
    · omega
    · skip
      refine lv_aload_n hx hb dX6_compare_9 rfl (lv_at hl 0 rfl) ?_
      refine lv_iload_n hx hb dX6_compare_10 rfl (lv_at hl 2 rfl) ?_
      refine mk_calli (As := [.int (iz p1)]) (rest := [.ref mo]) ⟨hx, hb, hml, hown, hts⟩ (k_isNone l dC dI mo ma cs I F p1 H.size hI.hB (by omega) (by omega)) (cwV 1 hts (kx_gV kq_04_msmall_3 kq_04_msmall_4 kq_04_msmall_5 kq_04_msmall_6 kq_04_msmall_7 rfl) rfl rfl rfl (by decide +kernel) ⟨Nat.le_of_ble_eq_true rfl, Nat.le_of_ble_eq_true rfl⟩) hP hD hK hG hZ hS hA rfl hl.1 rfl (Nat.le_of_ble_eq_true rfl) dX6_compare_11 ⟨Nat.le_of_ble_eq_true rfl, Nat.le_of_ble_eq_true rfl⟩ (fun z_13 I_15 F_16 H locs hq_14 hP hD hS => ?_)
      try dsimp only at hq_14
      obtain ⟨rfl, rfl, hq_14⟩ := hq_14
      rcases hq_14 with ⟨rfl, hq_14⟩ | ⟨rfl, hq_14⟩
      · skip
        refine ki_if_eq (tgt := 21) hx hb dX6_compare_14 (by decide) (by omega) (by omega) (fun c_17 => ?_) (fun c_17 => ?_)
        · omega
        · skip
          refine lv_iconst (v := iz 1) hx hb dX6_compare_17 (by decide) ?_
          refine lv_goto (tgt := 22) hx hb dX6_compare_18 (by decide) ?_
          refine lv_iconst (v := iz 0) hx hb dX6_compare_22 (by decide) ?_
          refine lv_iconst (v := iz 0) hx hb dX6_compare_23 (by decide) ?_
          refine mk_calli (As := [.int (iz 1), .int (iz 0), .int (iz 0)]) (rest := []) ⟨hx, hb, hml, hown, hts⟩ (k_refused1 l dC dI mo ma cs I F 0 0 H.size (by omega) (by omega) (by omega) (by omega)) (cwV 3 hts (kx_gV kq_04_msmall_8 kq_04_msmall_9 kq_04_msmall_10 kq_04_msmall_6 kq_04_msmall_11 rfl) rfl rfl rfl (by decide +kernel) ⟨Nat.le_of_ble_eq_true rfl, Nat.le_of_ble_eq_true rfl⟩) hP hD hK hG hZ hS hA rfl hl.1 rfl (Nat.le_of_ble_eq_true rfl) dX6_compare_24 ⟨Nat.le_of_ble_eq_true rfl, Nat.le_of_ble_eq_true rfl⟩ (fun z_18 I_20 F_21 H locs hq_19 hP hD hS => ?_)
          try dsimp only at hq_19
          obtain ⟨rfl, rfl, rfl⟩ := hq_19
          refine ki_if_eq (tgt := 34) hx hb dX6_compare_27 (by decide) (by omega) (by omega) (fun c_22 => ?_) (fun c_22 => ?_)
          · omega
          · skip
            refine lv_iconst (v := iz 0) hx hb dX6_compare_30 (by decide) ?_
            refine lv_goto (tgt := 40) hx hb dX6_compare_31 (by decide) ?_
            have hk23 : mWk _ _ (va_up I 0 1) F ∧ _ := mWk.thr hI (v := 1) (by omega)
            have hI23 : mIv (va_up I 0 1) F := hI.go hk23.1
            have hw23 : mWk _ _ (va_up I 0 1) F := hW0.tr hk23.1
            have e1623 : (va_up I 0 1) 16 = _ := hk23.2.1
            have e1923 : (va_up I 0 1) 19 = _ := hk23.2.2
            have e123 : (va_up I 0 1) 1 = _ := hk23.1.2.1.1 1 (by decide)
            exact mk_ireti hx hb hr hlocks hP hD hK hS dX6_compare_40 (⟨hw23, Or.inl ⟨rfl, by omega⟩⟩)
      · skip
        refine ki_if_eq (tgt := 21) hx hb dX6_compare_14 (by decide) (by omega) (by omega) (fun c_24 => ?_) (fun c_24 => ?_)
        · skip
          refine lv_iconst (v := iz 0) hx hb dX6_compare_21 (by decide) ?_
          refine lv_iconst (v := iz 0) hx hb dX6_compare_22 (by decide) ?_
          refine lv_iconst (v := iz 0) hx hb dX6_compare_23 (by decide) ?_
          refine mk_calli (As := [.int (iz 0), .int (iz 0), .int (iz 0)]) (rest := []) ⟨hx, hb, hml, hown, hts⟩ (k_refused0 l dC dI mo ma cs I F  H.size ) (cwV 3 hts (kx_gV kq_04_msmall_8 kq_04_msmall_9 kq_04_msmall_10 kq_04_msmall_6 kq_04_msmall_11 rfl) rfl rfl rfl (by decide +kernel) ⟨Nat.le_of_ble_eq_true rfl, Nat.le_of_ble_eq_true rfl⟩) hP hD hK hG hZ hS hA rfl hl.1 rfl (Nat.le_of_ble_eq_true rfl) dX6_compare_24 ⟨Nat.le_of_ble_eq_true rfl, Nat.le_of_ble_eq_true rfl⟩ (fun z_25 I_27 F_28 H locs hq_26 hP hD hS => ?_)
          try dsimp only at hq_26
          obtain ⟨rfl, rfl, rfl⟩ := hq_26
          refine ki_if_eq (tgt := 34) hx hb dX6_compare_27 (by decide) (by omega) (by omega) (fun c_29 => ?_) (fun c_29 => ?_)
          · skip
            refine lv_aload_n hx hb dX6_compare_34 rfl (lv_at hl 0 rfl) ?_
            refine lv_iload_n hx hb dX6_compare_35 rfl (lv_at hl 1 rfl) ?_
            refine lv_iload_n hx hb dX6_compare_36 rfl (lv_at hl 2 rfl) ?_
            have hk30 : mWk _ _ (va_up I 0 0) F ∧ _ := mWk.thr hI (v := 0) (by omega)
            have hI30 : mIv (va_up I 0 0) F := hI.go hk30.1
            have hw30 : mWk _ _ (va_up I 0 0) F := hW0.tr hk30.1
            have e1630 : (va_up I 0 0) 16 = _ := hk30.2.1
            have e1930 : (va_up I 0 0) 19 = _ := hk30.2.2
            have e130 : (va_up I 0 0) 1 = _ := hk30.1.2.1.1 1 (by decide)
            refine mk_calli (As := [.int (iz p0), .int (iz p1)]) (rest := []) ⟨hx, hb, hml, hown, hts⟩ (k_orderOf2 l dC dI mo ma cs (va_up I 0 0) F p0 p1 H.size hI30.hB (by omega) (by omega) hI30.hn (hsgs p0 (by omega) (by omega)) (hsgs p1 (by omega) (by omega)) hdg hwd) (cwV 2 hts (kx_gV kq_06_mway_20 kq_06_mway_21 kq_06_mway_22 kq_04_msmall_6 kq_06_mway_23 rfl) rfl rfl rfl (by decide +kernel) ⟨Nat.le_of_ble_eq_true rfl, Nat.le_of_ble_eq_true rfl⟩) hP hD hK hG hZ hS hA rfl hl.1 rfl (Nat.le_of_ble_eq_true rfl) dX6_compare_37 ⟨Nat.le_of_ble_eq_true rfl, Nat.le_of_ble_eq_true rfl⟩ (fun z_31 I_33 F_34 H locs hq_32 hP hD hS => ?_)
            try dsimp only at hq_32
            have hoc := hq_32.2.2.2.2
            have hi0 := congrFun hq_32.1 0
            have hq_32 := (⟨hq_32.1, hq_32.2.1, hq_32.2.2.1, hq_32.2.2.2.1⟩ : _ ∧ _ ∧ _ ∧ _)
            have hk35 : mWk (va_up I 0 0) F I_33 F_34 ∧ _ := mWk.scr hI30 hq_32.1 hq_32.2.1 hq_32.2.2.1
            have hI35 : mIv I_33 F_34 := hI30.go hk35.1
            have hw35 : mWk _ _ I_33 F_34 := hw30.tr hk35.1
            have e1635 := hk35.2.1
            have e1935 := hk35.2.2
            have hc35 := hI35.hc
            have hx35a := hk35.1.2.1.1 1 (by decide)
            have hrg_36 := hq_32.2.2.2
            exact mk_ireti hx hb hr hlocks hP hD hK hS dX6_compare_40 (⟨hw35, Or.inr ⟨hi0.symm, by omega, hoc⟩⟩)
          · omega
        · omega
