/-! the reference, exact: warnings -/

set_option maxHeartbeats 4000000 in
set_option maxRecDepth 100000 in
theorem k_hasPage2 (l : Launch) (dC : Nat → ClassId) (dI : Nat → Nat → Nat) (mo : Nat) (ma : Nat → Nat) (cs : Nat → ClassId) (I : Nat → Int) (F : Nat → Int → Int) (p0 : Int) (sz : Nat) (hB : mB I F) (hc : 0 ≤ I 1 ∧ I 1 ≤ 64) (hln : ∀ e, 0 ≤ F 10 e ∧ 0 ≤ F 11 e ∧ F 11 e ≤ 99999 ∧ F 10 e + (if 0 < F 11 e then 1 else 0) ≤ 20) (hp01 : -2147483648 ≤ p0) (hp02 : p0 < 2147483648) : mMi l yX6_hasPage (.code yX6_hasPage cX6_hasPage 4 (some .boolean)) 1 21 dC dI mo ma cs I F [.ref mo, .int (iz p0)] sz (fun (r : Int) (I' : Nat → Int) (F' : Nat → Int → Int) => I = I' ∧ F = F' ∧ ((r = 1 ∧ ¬ wr_np (I 1) (F 17) (wr_pg F) p0) ∨ (r = 0 ∧ wr_np (I 1) (F 17) (wr_pg F) p0))) := by
  refine Met.ofW (cc := cX6_hasPage) (maxL := 4) (ret := (some .boolean)) (by decide) rfl ?_
  intro p e s m args below meth c s₁ B hml hv
  obtain ⟨rfl, hsz, hP, hK, hD0, hG, hZ⟩ := hv
  have hx := B.exec
  have hb := B.bytes
  have hr := B.returns
  have hts := kx_hts (a := ([.ref mo, .int (iz p0)] : List Value).toArray) hG
  have hown : s.vm.findClass RX6 = some m.cls := findClass_of_methodNamed B.named
  have hlocks := B.notSynchronized
  subst hsz
  have hD := hD0.self (sz := s.heap.size)
  generalize hAe : va_A (mW mo ma cs I F) s.heap.size = A at hD hZ ⊢
  have hA : ∀ q : Nat, s.heap.size ≤ q → A q := fun q h => by rw [← hAe]; exact Or.inr h
  have hS : va_S A s.heap s.heap [] := va_S.rf
  have hl := lv_entry ([.ref mo, .int (iz p0)]) (n := 4) (Nat.le_of_ble_eq_true rfl)
  rw [lg_entry_eq]
  generalize (lg_sl ([.ref mo, .int (iz p0)]) ++ List.replicate (4 - (lg_sl ([.ref mo, .int (iz p0)])).length) Slot.unset).toArray = ls at hl ⊢
  have hl : lv_has ls 4 [(0, .ref mo), (1, .int (iz p0))] := hl
  generalize hQe : MQ below (mQi dC dI mo ma cs A (fun (r : Int) (I' : Nat → Int) (F' : Nat → Int → Int) => I = I' ∧ F = F' ∧ ((r = 1 ∧ ¬ wr_np (I 1) (F 17) (wr_pg F) p0) ∨ (r = 0 ∧ wr_np (I 1) (F 17) (wr_pg F) p0)))) ([.ref mo, .int (iz p0)] : List Value).toArray s 0 0 A = QQ
  refine lv_iconst (v := iz 0) hx hb dX6_hasPage_0 (by decide) ?_
  refine lv_istore_n (lv' := [(2, .int (iz 0)), (0, .ref mo), (1, .int (iz p0))]) hx hb dX6_hasPage_1 rfl hl (by decide) rfl (fun ls hl => ?_)
  refine lv_iconst (v := iz 0) hx hb dX6_hasPage_2 (by decide) ?_
  refine lv_istore_n (lv' := [(3, .int (iz 0)), (2, .int (iz 0)), (0, .ref mo), (1, .int (iz p0))]) hx hb dX6_hasPage_3 rfl hl (by decide) rfl (fun ls hl => ?_)
  have lp4 : ∀ (n : Nat) (ha ev : Int), (((ha = 0 ∧ ∀ j, 0 ≤ j → j < ev → F 17 j = p0 → wr_pg F j = 0) ∨ (ha = 1 ∧ ¬ wr_np (I 1) (F 17) (wr_pg F) p0)) ∧ (0 ≤ ev ∧ ev ≤ I 1)) → (I 1 - ev).toNat < n → ∀ (H : Heap) (locs : List Loc), va_P (dC, dI) kxCl (mW mo ma cs I F) H → va_D A (mW mo ma cs I F) → va_S A s.heap H locs → ∀ ls : Array Slot, lv_has ls 4 [(3, .int (iz ev)), (2, .int (iz ha)), (0, .ref mo), (1, .int (iz p0))] → W p l e (headSpec [.code yX6_hasPage cX6_hasPage 4 (some .boolean)] ({ frames := 1, cells := 0, slots := 0, locals := 21 })).room s m ([.ref mo, .int (iz p0)] : List Value).toArray below meth c H locs 0 0 QQ (F0 m 4 ls []) := by
    intro n
    induction n with
    | zero => intro ha ev hinv hm; exact absurd hm (Nat.not_lt_zero _)
    | succ n ih4 =>
      intro ha ev hinv hm H locs hP hD hS ls hl
      obtain ⟨hha, hev⟩ := hinv
      have hha1 : ha = 0 ∨ ha = 1 := by rcases hha with h9 | h9; exact Or.inl h9.1; exact Or.inr h9.1
      replace hha := fun (_ : Unit) => hha
      refine lv_iload_n hx hb dX6_hasPage_4 rfl (lv_at hl 0 rfl) ?_
      refine lv_aload_n hx hb dX6_hasPage_5 rfl (lv_at hl 2 rfl) ?_
      refine va_get (D := (dC, dI)) (ci := 6) (v := .int (iz (I 1))) (C := RX6) (T := TX6) (N := 44) hx hb hts kt_X6 hown hK hP 0 rfl rfl 1 (by decide) (kx_word hG kq_04_msmall_1 rfl) (fun _ h9 => h9) rfl dX6_hasPage_6 ?_
      have hbd_1 := hB.1 1
      refine ki_icmp_ge (tgt := 46) hx hb dX6_hasPage_9 (by decide) (by omega) (by omega) (by omega) (by omega) (fun c_2 => ?_) (fun c_2 => ?_)
      · skip
        refine lv_iload_n hx hb dX6_hasPage_46 rfl (lv_at hl 1 rfl) ?_
        rw [← hQe]
        exact mk_iretz hx hb hr hlocks hP hD hK hS dX6_hasPage_47 (by omega) (⟨rfl, rfl, by rcases hha () with h9 | h9; exact Or.inr ⟨h9.1, fun j a b c => h9.2 j a (by omega) c⟩; exact Or.inl h9⟩)
      · skip
        refine lv_iload_n hx hb dX6_hasPage_12 rfl (lv_at hl 1 rfl) ?_
        refine ki_if_ne (tgt := 34) hx hb dX6_hasPage_13 (by decide) (by omega) (by omega) (fun c_3 => ?_) (fun c_3 => ?_)
        · skip
          refine lv_iconst (v := iz 1) hx hb dX6_hasPage_34 (by decide) ?_
          refine lv_goto (tgt := 39) hx hb dX6_hasPage_35 (by decide) ?_
          refine lv_istore_n (lv' := [(2, .int (iz 1)), (3, .int (iz ev)), (0, .ref mo), (1, .int (iz p0))]) hx hb dX6_hasPage_39 rfl hl (by decide) rfl (fun ls hl => ?_)
          refine lv_iinc (v := iz (ev + 1)) (lv' := [(3, .int (iz (ev + 1))), (2, .int (iz 1)), (0, .ref mo), (1, .int (iz p0))]) hx hb dX6_hasPage_40 hl (k := 1) rfl (iz_add ev 1) (by decide) rfl (fun ls hl => ?_)
          refine lv_goto (tgt := 4) hx hb dX6_hasPage_43 (by decide) ?_
          exact ih4 1 (ev + 1) ⟨Or.inr ⟨rfl, by rcases hha () with h9 | h9; exact absurd h9.1 (by omega); exact h9.2⟩, by omega⟩ (by omega) _ _ hP hD hS ls (lv_sub hl [0, 1, 2, 3] rfl)
        · skip
          refine lv_aload_n hx hb dX6_hasPage_16 rfl (lv_at hl 2 rfl) ?_
          refine va_get (D := (dC, dI)) (ci := 6) (v := .ref (ma 17)) (C := RX6) (T := TX6) (N := 44) hx hb hts kt_X6 hown hK hP 0 rfl rfl 17 (by decide) (kx_word hG kq_06_mway_15 rfl) (fun _ h9 => h9) rfl dX6_hasPage_17 ?_
          refine lv_iload_n hx hb dX6_hasPage_20 rfl (lv_at hl 0 rfl) ?_
          refine ki_iald (F := F 17) hx hb hK hP 13 12 rfl rfl (by omega) (by omega) (by decide) dX6_hasPage_21 ?_
          have hbd_4 := hB.2 17 ev
          refine lv_iload_n hx hb dX6_hasPage_22 rfl (lv_at hl 3 rfl) ?_
          refine ki_icmp_ne (tgt := 38) hx hb dX6_hasPage_23 (by decide) (by omega) (by omega) (by omega) (by omega) (fun c_5 => ?_) (fun c_5 => ?_)
          · skip
            refine lv_iconst (v := iz 0) hx hb dX6_hasPage_38 (by decide) ?_
            refine lv_istore_n (lv' := [(2, .int (iz 0)), (3, .int (iz ev)), (0, .ref mo), (1, .int (iz p0))]) hx hb dX6_hasPage_39 rfl hl (by decide) rfl (fun ls hl => ?_)
            refine lv_iinc (v := iz (ev + 1)) (lv' := [(3, .int (iz (ev + 1))), (2, .int (iz 0)), (0, .ref mo), (1, .int (iz p0))]) hx hb dX6_hasPage_40 hl (k := 1) rfl (iz_add ev 1) (by decide) rfl (fun ls hl => ?_)
            refine lv_goto (tgt := 4) hx hb dX6_hasPage_43 (by decide) ?_
            exact ih4 0 (ev + 1) ⟨Or.inl ⟨rfl, fun j a b c => by by_cases c9 : j = ev; (rw [c9] at c ⊢; exact absurd c (by omega)); (rcases hha () with h9 | h9; exact h9.2 j a (by omega) c; exact absurd h9.1 (by omega))⟩, by omega⟩ (by omega) _ _ hP hD hS ls (lv_sub hl [0, 1, 2, 3] rfl)
          · skip
            refine lv_aload_n hx hb dX6_hasPage_26 rfl (lv_at hl 2 rfl) ?_
            refine lv_iload_n hx hb dX6_hasPage_27 rfl (lv_at hl 0 rfl) ?_
            refine mk_calli (As := [.int (iz ev)]) (rest := []) ⟨hx, hb, hml, hown, hts⟩ (k_toldOf l dC dI mo ma cs I F ev H.size hB (by omega)) (cwV 1 hts (kx_gV kq_04_msmall_27 kq_04_msmall_28 kq_04_msmall_29 kq_04_msmall_6 kq_04_msmall_30 rfl) rfl rfl rfl (by decide +kernel) ⟨Nat.le_of_ble_eq_true rfl, Nat.le_of_ble_eq_true rfl⟩) hP hD hK hG hZ hS hA rfl hl.1 rfl (Nat.le_of_ble_eq_true rfl) dX6_hasPage_28 ⟨Nat.le_of_ble_eq_true rfl, Nat.le_of_ble_eq_true rfl⟩ (fun z_6 I_8 F_9 H locs hq_7 hP hD hS => ?_)
            try dsimp only at hq_7
            obtain ⟨rfl, rfl, hq_7⟩ := hq_7
            have h9 := hln ev
            have hq_7 : z_6 = wr_pg F ev := hq_7
            have hpg9 : 0 ≤ wr_pg F ev := by show 0 ≤ F 10 ev + (if 0 < F 11 ev then 1 else 0); split <;> omega
            have hpg8 : wr_pg F ev ≤ 20 := h9.2.2.2
            refine ki_if_le (tgt := 38) hx hb dX6_hasPage_31 (by decide) (by omega) (by omega) (fun c_10 => ?_) (fun c_10 => ?_)
            · skip
              refine lv_iconst (v := iz 0) hx hb dX6_hasPage_38 (by decide) ?_
              refine lv_istore_n (lv' := [(2, .int (iz 0)), (3, .int (iz ev)), (0, .ref mo), (1, .int (iz p0))]) hx hb dX6_hasPage_39 rfl hl (by decide) rfl (fun ls hl => ?_)
              refine lv_iinc (v := iz (ev + 1)) (lv' := [(3, .int (iz (ev + 1))), (2, .int (iz 0)), (0, .ref mo), (1, .int (iz p0))]) hx hb dX6_hasPage_40 hl (k := 1) rfl (iz_add ev 1) (by decide) rfl (fun ls hl => ?_)
              refine lv_goto (tgt := 4) hx hb dX6_hasPage_43 (by decide) ?_
              exact ih4 0 (ev + 1) ⟨Or.inl ⟨rfl, fun j a b c => by by_cases c9 : j = ev; (rw [c9] at c ⊢; omega); (rcases hha () with h9 | h9; exact h9.2 j a (by omega) c; exact absurd h9.1 (by omega))⟩, by omega⟩ (by omega) _ _ hP hD hS ls (lv_sub hl [0, 1, 2, 3] rfl)
            · skip
              refine lv_iconst (v := iz 1) hx hb dX6_hasPage_34 (by decide) ?_
              refine lv_goto (tgt := 39) hx hb dX6_hasPage_35 (by decide) ?_
              refine lv_istore_n (lv' := [(2, .int (iz 1)), (3, .int (iz ev)), (0, .ref mo), (1, .int (iz p0))]) hx hb dX6_hasPage_39 rfl hl (by decide) rfl (fun ls hl => ?_)
              refine lv_iinc (v := iz (ev + 1)) (lv' := [(3, .int (iz (ev + 1))), (2, .int (iz 1)), (0, .ref mo), (1, .int (iz p0))]) hx hb dX6_hasPage_40 hl (k := 1) rfl (iz_add ev 1) (by decide) rfl (fun ls hl => ?_)
              refine lv_goto (tgt := 4) hx hb dX6_hasPage_43 (by decide) ?_
              exact ih4 1 (ev + 1) ⟨Or.inr ⟨rfl, fun h8 => absurd (h8 ev (by omega) (by omega) (by omega)) (by omega)⟩, by omega⟩ (by omega) _ _ hP hD hS ls (lv_sub hl [0, 1, 2, 3] rfl)
  exact lp4 _ 0 0 ⟨Or.inl ⟨rfl, fun j a b => absurd b (by omega)⟩, by omega⟩ (Nat.lt_succ_self _) _ _ hP hD hS ls (lv_sub hl [0, 1, 2, 3] rfl)
set_option maxHeartbeats 4000000 in
set_option maxRecDepth 100000 in
theorem k_isBare2 (l : Launch) (dC : Nat → ClassId) (dI : Nat → Nat → Nat) (mo : Nat) (ma : Nat → Nat) (cs : Nat → ClassId) (I : Nat → Int) (F : Nat → Int → Int) (p0 : Int) (sz : Nat) (hB : mB I F) (hc : 0 ≤ I 1 ∧ I 1 ≤ 64) (hln : ∀ e, 0 ≤ F 10 e ∧ 0 ≤ F 11 e ∧ F 11 e ≤ 99999 ∧ F 10 e + (if 0 < F 11 e then 1 else 0) ≤ 20) (hlv : mLv I F) (h0 : 0 ≤ p0 ∧ p0 < I 1) : mMi l yX6_isBare (.code yX6_isBare cX6_isBare 4 (some .boolean)) 2 44 dC dI mo ma cs I F [.ref mo, .int (iz p0)] sz (fun (r : Int) (I' : Nat → Int) (F' : Nat → Int → Int) => I = I' ∧ F = F' ∧ ((r = 1 ∧ wr_br (I 1) (F 2) (F 3) (F 17) (wr_pg F) (F 13) p0) ∨ (r = 0 ∧ ¬ wr_br (I 1) (F 2) (F 3) (F 17) (wr_pg F) (F 13) p0))) := by
  refine Met.ofW (cc := cX6_isBare) (maxL := 4) (ret := (some .boolean)) (by decide) rfl ?_
  intro p e s m args below meth c s₁ B hml hv
  obtain ⟨rfl, hsz, hP, hK, hD0, hG, hZ⟩ := hv
  have hx := B.exec
  have hb := B.bytes
  have hr := B.returns
  have hts := kx_hts (a := ([.ref mo, .int (iz p0)] : List Value).toArray) hG
  have hown : s.vm.findClass RX6 = some m.cls := findClass_of_methodNamed B.named
  have hlocks := B.notSynchronized
  subst hsz
  have hD := hD0.self (sz := s.heap.size)
  generalize hAe : va_A (mW mo ma cs I F) s.heap.size = A at hD hZ ⊢
  have hA : ∀ q : Nat, s.heap.size ≤ q → A q := fun q h => by rw [← hAe]; exact Or.inr h
  have hS : va_S A s.heap s.heap [] := va_S.rf
  have hl := lv_entry ([.ref mo, .int (iz p0)]) (n := 4) (Nat.le_of_ble_eq_true rfl)
  rw [lg_entry_eq]
  generalize (lg_sl ([.ref mo, .int (iz p0)]) ++ List.replicate (4 - (lg_sl ([.ref mo, .int (iz p0)])).length) Slot.unset).toArray = ls at hl ⊢
  have hl : lv_has ls 4 [(0, .ref mo), (1, .int (iz p0))] := hl
  generalize hQe : MQ below (mQi dC dI mo ma cs A (fun (r : Int) (I' : Nat → Int) (F' : Nat → Int → Int) => I = I' ∧ F = F' ∧ ((r = 1 ∧ wr_br (I 1) (F 2) (F 3) (F 17) (wr_pg F) (F 13) p0) ∨ (r = 0 ∧ ¬ wr_br (I 1) (F 2) (F 3) (F 17) (wr_pg F) (F 13) p0)))) ([.ref mo, .int (iz p0)] : List Value).toArray s 0 0 A = QQ
  refine lv_aload_n hx hb dX6_isBare_0 rfl (lv_at hl 0 rfl) ?_
  refine va_get (D := (dC, dI)) (ci := 6) (v := .ref (ma 17)) (C := RX6) (T := TX6) (N := 44) hx hb hts kt_X6 hown hK hP 0 rfl rfl 17 (by decide) (kx_word hG kq_06_mway_15 rfl) (fun _ h9 => h9) rfl dX6_isBare_1 ?_
  refine lv_iload_n hx hb dX6_isBare_4 rfl (lv_at hl 1 rfl) ?_
  refine ki_iald (F := F 17) hx hb hK hP 13 12 rfl rfl (by omega) (by omega) (by decide) dX6_isBare_5 ?_
  have hbd_1 := hB.2 17 p0
  refine lv_iload_n hx hb dX6_isBare_6 rfl (lv_at hl 1 rfl) ?_
  refine ki_icmp_ne (tgt := 18) hx hb dX6_isBare_7 (by decide) (by omega) (by omega) (by omega) (by omega) (fun c_2 => ?_) (fun c_2 => ?_)
  · skip
    refine lv_iconst (v := iz 0) hx hb dX6_isBare_18 (by decide) ?_
    rw [← hQe]
    exact mk_iretz hx hb hr hlocks hP hD hK hS dX6_isBare_19 (by omega) (⟨rfl, rfl, Or.inr ⟨rfl, fun h9 => absurd h9.1 (by omega)⟩⟩)
  · skip
    refine lv_aload_n hx hb dX6_isBare_10 rfl (lv_at hl 0 rfl) ?_
    refine lv_iload_n hx hb dX6_isBare_11 rfl (lv_at hl 1 rfl) ?_
    refine mk_calli (As := [.int (iz p0)]) (rest := []) ⟨hx, hb, hml, hown, hts⟩ (k_hasPage2 l dC dI mo ma cs I F p0 s.heap.size hB (by omega) hln (by omega) (by omega)) (cwV 1 hts (kx_gV kq_08_mgather_9 kq_08_mgather_10 kq_08_mgather_11 kq_04_msmall_6 kq_08_mgather_12 rfl) rfl rfl rfl (by decide +kernel) ⟨Nat.le_of_ble_eq_true rfl, Nat.le_of_ble_eq_true rfl⟩) hP hD hK hG hZ hS hA rfl hl.1 rfl (Nat.le_of_ble_eq_true rfl) dX6_isBare_12 ⟨Nat.le_of_ble_eq_true rfl, Nat.le_of_ble_eq_true rfl⟩ (fun z_3 I_5 F_6 H locs hq_4 hP hD hS => ?_)
    try dsimp only at hq_4
    obtain ⟨rfl, rfl, hq_4⟩ := hq_4
    rcases hq_4 with ⟨rfl, hq_4⟩ | ⟨rfl, hq_4⟩
    · skip
      refine ki_if_eq (tgt := 20) hx hb dX6_isBare_15 (by decide) (by omega) (by omega) (fun c_7 => ?_) (fun c_7 => ?_)
      · omega
      · skip
        refine lv_iconst (v := iz 0) hx hb dX6_isBare_18 (by decide) ?_
        rw [← hQe]
        exact mk_iretz hx hb hr hlocks hP hD hK hS dX6_isBare_19 (by omega) (⟨rfl, rfl, Or.inr ⟨rfl, fun h9 => hq_4 h9.2.1⟩⟩)
    · skip
      refine ki_if_eq (tgt := 20) hx hb dX6_isBare_15 (by decide) (by omega) (by omega) (fun c_8 => ?_) (fun c_8 => ?_)
      · skip
        refine lv_iconst (v := iz 1) hx hb dX6_isBare_20 (by decide) ?_
        refine lv_istore_n (lv' := [(2, .int (iz 1)), (0, .ref mo), (1, .int (iz p0))]) hx hb dX6_isBare_21 rfl hl (by decide) rfl (fun ls hl => ?_)
        refine lv_iconst (v := iz 0) hx hb dX6_isBare_22 (by decide) ?_
        refine lv_istore_n (lv' := [(3, .int (iz 0)), (2, .int (iz 1)), (0, .ref mo), (1, .int (iz p0))]) hx hb dX6_isBare_23 rfl hl (by decide) rfl (fun ls hl => ?_)
        have lp24 : ∀ (n : Nat) (ba k : Int), (((ba = 1 ∧ (∀ j, 0 ≤ j → j < k → F 17 j = p0 → F 13 j = 0) ∧ ∀ j, 0 ≤ j → j < k → ¬ F 2 j = 0 → ¬ F 17 (F 3 j) = p0) ∨ (ba = 0 ∧ ¬ wr_br (I 1) (F 2) (F 3) (F 17) (wr_pg F) (F 13) p0)) ∧ (0 ≤ k ∧ k ≤ I 1)) → (I 1 - k).toNat < n → ∀ (H : Heap) (locs : List Loc), va_P (dC, dI) kxCl (mW mo ma cs I F) H → va_D A (mW mo ma cs I F) → va_S A s.heap H locs → ∀ ls : Array Slot, lv_has ls 4 [(3, .int (iz k)), (2, .int (iz ba)), (0, .ref mo), (1, .int (iz p0))] → W p l e (headSpec [.code yX6_isBare cX6_isBare 4 (some .boolean)] ({ frames := 2, cells := 0, slots := 0, locals := 44 })).room s m ([.ref mo, .int (iz p0)] : List Value).toArray below meth c H locs 0 0 QQ (F0 m 24 ls []) := by
          intro n
          induction n with
          | zero => intro ba k hinv hm; exact absurd hm (Nat.not_lt_zero _)
          | succ n ih24 =>
            intro ba k hinv hm H locs hP hD hS ls hl
            obtain ⟨hba, hk⟩ := hinv
            have hba1 : ba = 0 ∨ ba = 1 := by rcases hba with h9 | h9; exact Or.inr h9.1; exact Or.inl h9.1
            replace hba := fun (_ : Unit) => hba
            refine lv_iload_n hx hb dX6_isBare_24 rfl (lv_at hl 0 rfl) ?_
            refine lv_aload_n hx hb dX6_isBare_25 rfl (lv_at hl 2 rfl) ?_
            refine va_get (D := (dC, dI)) (ci := 6) (v := .int (iz (I 1))) (C := RX6) (T := TX6) (N := 44) hx hb hts kt_X6 hown hK hP 0 rfl rfl 1 (by decide) (kx_word hG kq_04_msmall_1 rfl) (fun _ h9 => h9) rfl dX6_isBare_26 ?_
            have hbd_9 := hB.1 1
            refine ki_icmp_ge (tgt := 91) hx hb dX6_isBare_29 (by decide) (by omega) (by omega) (by omega) (by omega) (fun c_10 => ?_) (fun c_10 => ?_)
            · skip
              refine lv_iload_n hx hb dX6_isBare_91 rfl (lv_at hl 1 rfl) ?_
              rw [← hQe]
              exact mk_iretz hx hb hr hlocks hP hD hK hS dX6_isBare_92 (by omega) (⟨rfl, rfl, by rcases hba () with h9 | h9; exact Or.inl ⟨h9.1, by omega, hq_4, fun j a b c => h9.2.1 j a (by omega) c, fun j a b c => h9.2.2 j a (by omega) c⟩; exact Or.inr h9⟩)
            · skip
              refine lv_iload_n hx hb dX6_isBare_32 rfl (lv_at hl 1 rfl) ?_
              refine ki_if_eq (tgt := 83) hx hb dX6_isBare_33 (by decide) (by omega) (by omega) (fun c_11 => ?_) (fun c_11 => ?_)
              · skip
                refine lv_iconst (v := iz 0) hx hb dX6_isBare_83 (by decide) ?_
                refine lv_istore_n (lv' := [(2, .int (iz 0)), (3, .int (iz k)), (0, .ref mo), (1, .int (iz p0))]) hx hb dX6_isBare_84 rfl hl (by decide) rfl (fun ls hl => ?_)
                refine lv_iinc (v := iz (k + 1)) (lv' := [(3, .int (iz (k + 1))), (2, .int (iz 0)), (0, .ref mo), (1, .int (iz p0))]) hx hb dX6_isBare_85 hl (k := 1) rfl (iz_add k 1) (by decide) rfl (fun ls hl => ?_)
                refine lv_goto (tgt := 24) hx hb dX6_isBare_88 (by decide) ?_
                exact ih24 0 (k + 1) ⟨Or.inr ⟨rfl, by rcases hba () with h9 | h9; exact absurd h9.1 (by omega); exact h9.2⟩, by omega⟩ (by omega) _ _ hP hD hS ls (lv_sub hl [0, 1, 2, 3] rfl)
              · skip
                have hlk := hlv k (by omega) (by omega)
                refine lv_aload_n hx hb dX6_isBare_36 rfl (lv_at hl 2 rfl) ?_
                refine va_get (D := (dC, dI)) (ci := 6) (v := .ref (ma 17)) (C := RX6) (T := TX6) (N := 44) hx hb hts kt_X6 hown hK hP 0 rfl rfl 17 (by decide) (kx_word hG kq_06_mway_15 rfl) (fun _ h9 => h9) rfl dX6_isBare_37 ?_
                refine lv_iload_n hx hb dX6_isBare_40 rfl (lv_at hl 0 rfl) ?_
                refine ki_iald (F := F 17) hx hb hK hP 13 12 rfl rfl (by omega) (by omega) (by decide) dX6_isBare_41 ?_
                have hbd_12 := hB.2 17 k
                refine lv_iload_n hx hb dX6_isBare_42 rfl (lv_at hl 3 rfl) ?_
                refine ki_icmp_ne (tgt := 55) hx hb dX6_isBare_43 (by decide) (by omega) (by omega) (by omega) (by omega) (fun c_13 => ?_) (fun c_13 => ?_)
                · skip
                  refine lv_aload_n hx hb dX6_isBare_55 rfl (lv_at hl 2 rfl) ?_
                  refine va_get (D := (dC, dI)) (ci := 6) (v := .ref (ma 2)) (C := RX6) (T := TX6) (N := 44) hx hb hts kt_X6 hown hK hP 0 rfl rfl 2 (by decide) (kx_word hG kq_04_msmall_12 rfl) (fun _ h9 => h9) rfl dX6_isBare_56 ?_
                  refine lv_iload_n hx hb dX6_isBare_59 rfl (lv_at hl 0 rfl) ?_
                  refine ki_iald (F := F 2) hx hb hK hP 1 0 rfl rfl (by omega) (by omega) (by decide) dX6_isBare_60 ?_
                  have hbd_14 := hB.2 2 k
                  refine ki_if_eq (tgt := 79) hx hb dX6_isBare_61 (by decide) (by omega) (by omega) (fun c_15 => ?_) (fun c_15 => ?_)
                  · skip
                    refine lv_iconst (v := iz 1) hx hb dX6_isBare_79 (by decide) ?_
                    refine lv_goto (tgt := 84) hx hb dX6_isBare_80 (by decide) ?_
                    refine lv_istore_n (lv' := [(2, .int (iz 1)), (3, .int (iz k)), (0, .ref mo), (1, .int (iz p0))]) hx hb dX6_isBare_84 rfl hl (by decide) rfl (fun ls hl => ?_)
                    refine lv_iinc (v := iz (k + 1)) (lv' := [(3, .int (iz (k + 1))), (2, .int (iz 1)), (0, .ref mo), (1, .int (iz p0))]) hx hb dX6_isBare_85 hl (k := 1) rfl (iz_add k 1) (by decide) rfl (fun ls hl => ?_)
                    refine lv_goto (tgt := 24) hx hb dX6_isBare_88 (by decide) ?_
                    exact ih24 1 (k + 1) ⟨Or.inl ⟨rfl, fun j a b c => by by_cases c9 : j = k; (rw [c9] at c ⊢; omega); (rcases hba () with h9 | h9; exact h9.2.1 j a (by omega) c; exact absurd h9.1 (by omega)), fun j a b c => by by_cases c9 : j = k; (rw [c9] at c ⊢; omega); (rcases hba () with h9 | h9; exact h9.2.2 j a (by omega) c; exact absurd h9.1 (by omega))⟩, by omega⟩ (by omega) _ _ hP hD hS ls (lv_sub hl [0, 1, 2, 3] rfl)
                  · skip
                    refine lv_aload_n hx hb dX6_isBare_64 rfl (lv_at hl 2 rfl) ?_
                    refine va_get (D := (dC, dI)) (ci := 6) (v := .ref (ma 17)) (C := RX6) (T := TX6) (N := 44) hx hb hts kt_X6 hown hK hP 0 rfl rfl 17 (by decide) (kx_word hG kq_06_mway_15 rfl) (fun _ h9 => h9) rfl dX6_isBare_65 ?_
                    refine lv_aload_n hx hb dX6_isBare_68 rfl (lv_at hl 2 rfl) ?_
                    refine va_get (D := (dC, dI)) (ci := 6) (v := .ref (ma 3)) (C := RX6) (T := TX6) (N := 44) hx hb hts kt_X6 hown hK hP 0 rfl rfl 3 (by decide) (kx_word hG kq_04_msmall_13 rfl) (fun _ h9 => h9) rfl dX6_isBare_69 ?_
                    refine lv_iload_n hx hb dX6_isBare_72 rfl (lv_at hl 0 rfl) ?_
                    refine ki_iald (F := F 3) hx hb hK hP 2 1 rfl rfl (by omega) (by omega) (by decide) dX6_isBare_73 ?_
                    have hbd_16 := hB.2 3 k
                    refine ki_iald (F := F 17) hx hb hK hP 13 12 rfl rfl (by omega) (by omega) (by decide) dX6_isBare_74 ?_
                    have hbd_17 := hB.2 17 (F 3 k)
                    refine lv_iload_n hx hb dX6_isBare_75 rfl (lv_at hl 3 rfl) ?_
                    refine ki_icmp_eq (tgt := 83) hx hb dX6_isBare_76 (by decide) (by omega) (by omega) (by omega) (by omega) (fun c_18 => ?_) (fun c_18 => ?_)
                    · skip
                      refine lv_iconst (v := iz 0) hx hb dX6_isBare_83 (by decide) ?_
                      refine lv_istore_n (lv' := [(2, .int (iz 0)), (3, .int (iz k)), (0, .ref mo), (1, .int (iz p0))]) hx hb dX6_isBare_84 rfl hl (by decide) rfl (fun ls hl => ?_)
                      refine lv_iinc (v := iz (k + 1)) (lv' := [(3, .int (iz (k + 1))), (2, .int (iz 0)), (0, .ref mo), (1, .int (iz p0))]) hx hb dX6_isBare_85 hl (k := 1) rfl (iz_add k 1) (by decide) rfl (fun ls hl => ?_)
                      refine lv_goto (tgt := 24) hx hb dX6_isBare_88 (by decide) ?_
                      exact ih24 0 (k + 1) ⟨Or.inr ⟨rfl, fun h9 => absurd (show F 17 (F 3 k) = p0 by omega) (h9.2.2.2 k (by omega) (by omega) (by omega))⟩, by omega⟩ (by omega) _ _ hP hD hS ls (lv_sub hl [0, 1, 2, 3] rfl)
                    · skip
                      refine lv_iconst (v := iz 1) hx hb dX6_isBare_79 (by decide) ?_
                      refine lv_goto (tgt := 84) hx hb dX6_isBare_80 (by decide) ?_
                      refine lv_istore_n (lv' := [(2, .int (iz 1)), (3, .int (iz k)), (0, .ref mo), (1, .int (iz p0))]) hx hb dX6_isBare_84 rfl hl (by decide) rfl (fun ls hl => ?_)
                      refine lv_iinc (v := iz (k + 1)) (lv' := [(3, .int (iz (k + 1))), (2, .int (iz 1)), (0, .ref mo), (1, .int (iz p0))]) hx hb dX6_isBare_85 hl (k := 1) rfl (iz_add k 1) (by decide) rfl (fun ls hl => ?_)
                      refine lv_goto (tgt := 24) hx hb dX6_isBare_88 (by decide) ?_
                      exact ih24 1 (k + 1) ⟨Or.inl ⟨rfl, fun j a b c => by by_cases c9 : j = k; (rw [c9] at c ⊢; omega); (rcases hba () with h9 | h9; exact h9.2.1 j a (by omega) c; exact absurd h9.1 (by omega)), fun j a b c => by by_cases c9 : j = k; (rw [c9] at c ⊢; omega); (rcases hba () with h9 | h9; exact h9.2.2 j a (by omega) c; exact absurd h9.1 (by omega))⟩, by omega⟩ (by omega) _ _ hP hD hS ls (lv_sub hl [0, 1, 2, 3] rfl)
                · skip
                  refine lv_aload_n hx hb dX6_isBare_46 rfl (lv_at hl 2 rfl) ?_
                  refine va_get (D := (dC, dI)) (ci := 6) (v := .ref (ma 13)) (C := RX6) (T := TX6) (N := 44) hx hb hts kt_X6 hown hK hP 0 rfl rfl 13 (by decide) (kx_word hG kq_04_msmall_38 rfl) (fun _ h9 => h9) rfl dX6_isBare_47 ?_
                  refine lv_iload_n hx hb dX6_isBare_50 rfl (lv_at hl 0 rfl) ?_
                  refine ki_iald (F := F 13) hx hb hK hP 12 11 rfl rfl (by omega) (by omega) (by decide) dX6_isBare_51 ?_
                  have hbd_19 := hB.2 13 k
                  refine ki_if_ne (tgt := 83) hx hb dX6_isBare_52 (by decide) (by omega) (by omega) (fun c_20 => ?_) (fun c_20 => ?_)
                  · skip
                    refine lv_iconst (v := iz 0) hx hb dX6_isBare_83 (by decide) ?_
                    refine lv_istore_n (lv' := [(2, .int (iz 0)), (3, .int (iz k)), (0, .ref mo), (1, .int (iz p0))]) hx hb dX6_isBare_84 rfl hl (by decide) rfl (fun ls hl => ?_)
                    refine lv_iinc (v := iz (k + 1)) (lv' := [(3, .int (iz (k + 1))), (2, .int (iz 0)), (0, .ref mo), (1, .int (iz p0))]) hx hb dX6_isBare_85 hl (k := 1) rfl (iz_add k 1) (by decide) rfl (fun ls hl => ?_)
                    refine lv_goto (tgt := 24) hx hb dX6_isBare_88 (by decide) ?_
                    exact ih24 0 (k + 1) ⟨Or.inr ⟨rfl, fun h9 => absurd (h9.2.2.1 k (by omega) (by omega) (by omega)) (by omega)⟩, by omega⟩ (by omega) _ _ hP hD hS ls (lv_sub hl [0, 1, 2, 3] rfl)
                  · skip
                    refine lv_aload_n hx hb dX6_isBare_55 rfl (lv_at hl 2 rfl) ?_
                    refine va_get (D := (dC, dI)) (ci := 6) (v := .ref (ma 2)) (C := RX6) (T := TX6) (N := 44) hx hb hts kt_X6 hown hK hP 0 rfl rfl 2 (by decide) (kx_word hG kq_04_msmall_12 rfl) (fun _ h9 => h9) rfl dX6_isBare_56 ?_
                    refine lv_iload_n hx hb dX6_isBare_59 rfl (lv_at hl 0 rfl) ?_
                    refine ki_iald (F := F 2) hx hb hK hP 1 0 rfl rfl (by omega) (by omega) (by decide) dX6_isBare_60 ?_
                    have hbd_21 := hB.2 2 k
                    refine ki_if_eq (tgt := 79) hx hb dX6_isBare_61 (by decide) (by omega) (by omega) (fun c_22 => ?_) (fun c_22 => ?_)
                    · skip
                      refine lv_iconst (v := iz 1) hx hb dX6_isBare_79 (by decide) ?_
                      refine lv_goto (tgt := 84) hx hb dX6_isBare_80 (by decide) ?_
                      refine lv_istore_n (lv' := [(2, .int (iz 1)), (3, .int (iz k)), (0, .ref mo), (1, .int (iz p0))]) hx hb dX6_isBare_84 rfl hl (by decide) rfl (fun ls hl => ?_)
                      refine lv_iinc (v := iz (k + 1)) (lv' := [(3, .int (iz (k + 1))), (2, .int (iz 1)), (0, .ref mo), (1, .int (iz p0))]) hx hb dX6_isBare_85 hl (k := 1) rfl (iz_add k 1) (by decide) rfl (fun ls hl => ?_)
                      refine lv_goto (tgt := 24) hx hb dX6_isBare_88 (by decide) ?_
                      exact ih24 1 (k + 1) ⟨Or.inl ⟨rfl, fun j a b c => by by_cases c9 : j = k; (rw [c9] at c ⊢; omega); (rcases hba () with h9 | h9; exact h9.2.1 j a (by omega) c; exact absurd h9.1 (by omega)), fun j a b c => by by_cases c9 : j = k; (rw [c9] at c ⊢; omega); (rcases hba () with h9 | h9; exact h9.2.2 j a (by omega) c; exact absurd h9.1 (by omega))⟩, by omega⟩ (by omega) _ _ hP hD hS ls (lv_sub hl [0, 1, 2, 3] rfl)
                    · skip
                      refine lv_aload_n hx hb dX6_isBare_64 rfl (lv_at hl 2 rfl) ?_
                      refine va_get (D := (dC, dI)) (ci := 6) (v := .ref (ma 17)) (C := RX6) (T := TX6) (N := 44) hx hb hts kt_X6 hown hK hP 0 rfl rfl 17 (by decide) (kx_word hG kq_06_mway_15 rfl) (fun _ h9 => h9) rfl dX6_isBare_65 ?_
                      refine lv_aload_n hx hb dX6_isBare_68 rfl (lv_at hl 2 rfl) ?_
                      refine va_get (D := (dC, dI)) (ci := 6) (v := .ref (ma 3)) (C := RX6) (T := TX6) (N := 44) hx hb hts kt_X6 hown hK hP 0 rfl rfl 3 (by decide) (kx_word hG kq_04_msmall_13 rfl) (fun _ h9 => h9) rfl dX6_isBare_69 ?_
                      refine lv_iload_n hx hb dX6_isBare_72 rfl (lv_at hl 0 rfl) ?_
                      refine ki_iald (F := F 3) hx hb hK hP 2 1 rfl rfl (by omega) (by omega) (by decide) dX6_isBare_73 ?_
                      have hbd_23 := hB.2 3 k
                      refine ki_iald (F := F 17) hx hb hK hP 13 12 rfl rfl (by omega) (by omega) (by decide) dX6_isBare_74 ?_
                      have hbd_24 := hB.2 17 (F 3 k)
                      refine lv_iload_n hx hb dX6_isBare_75 rfl (lv_at hl 3 rfl) ?_
                      refine ki_icmp_eq (tgt := 83) hx hb dX6_isBare_76 (by decide) (by omega) (by omega) (by omega) (by omega) (fun c_25 => ?_) (fun c_25 => ?_)
                      · skip
                        refine lv_iconst (v := iz 0) hx hb dX6_isBare_83 (by decide) ?_
                        refine lv_istore_n (lv' := [(2, .int (iz 0)), (3, .int (iz k)), (0, .ref mo), (1, .int (iz p0))]) hx hb dX6_isBare_84 rfl hl (by decide) rfl (fun ls hl => ?_)
                        refine lv_iinc (v := iz (k + 1)) (lv' := [(3, .int (iz (k + 1))), (2, .int (iz 0)), (0, .ref mo), (1, .int (iz p0))]) hx hb dX6_isBare_85 hl (k := 1) rfl (iz_add k 1) (by decide) rfl (fun ls hl => ?_)
                        refine lv_goto (tgt := 24) hx hb dX6_isBare_88 (by decide) ?_
                        exact ih24 0 (k + 1) ⟨Or.inr ⟨rfl, fun h9 => absurd (show F 17 (F 3 k) = p0 by omega) (h9.2.2.2 k (by omega) (by omega) (by omega))⟩, by omega⟩ (by omega) _ _ hP hD hS ls (lv_sub hl [0, 1, 2, 3] rfl)
                      · skip
                        refine lv_iconst (v := iz 1) hx hb dX6_isBare_79 (by decide) ?_
                        refine lv_goto (tgt := 84) hx hb dX6_isBare_80 (by decide) ?_
                        refine lv_istore_n (lv' := [(2, .int (iz 1)), (3, .int (iz k)), (0, .ref mo), (1, .int (iz p0))]) hx hb dX6_isBare_84 rfl hl (by decide) rfl (fun ls hl => ?_)
                        refine lv_iinc (v := iz (k + 1)) (lv' := [(3, .int (iz (k + 1))), (2, .int (iz 1)), (0, .ref mo), (1, .int (iz p0))]) hx hb dX6_isBare_85 hl (k := 1) rfl (iz_add k 1) (by decide) rfl (fun ls hl => ?_)
                        refine lv_goto (tgt := 24) hx hb dX6_isBare_88 (by decide) ?_
                        exact ih24 1 (k + 1) ⟨Or.inl ⟨rfl, fun j a b c => by by_cases c9 : j = k; (rw [c9] at c ⊢; omega); (rcases hba () with h9 | h9; exact h9.2.1 j a (by omega) c; exact absurd h9.1 (by omega)), fun j a b c => by by_cases c9 : j = k; (rw [c9] at c ⊢; omega); (rcases hba () with h9 | h9; exact h9.2.2 j a (by omega) c; exact absurd h9.1 (by omega))⟩, by omega⟩ (by omega) _ _ hP hD hS ls (lv_sub hl [0, 1, 2, 3] rfl)
        exact lp24 _ 1 0 ⟨Or.inl ⟨rfl, fun j a b => absurd b (by omega), fun j a b => absurd b (by omega)⟩, by omega⟩ (Nat.lt_succ_self _) _ _ hP hD hS ls (lv_sub hl [0, 1, 2, 3] rfl)
      · omega
set_option maxHeartbeats 4000000 in
set_option maxRecDepth 100000 in
theorem k_told3 (l : Launch) (dC : Nat → ClassId) (dI : Nat → Nat → Nat) (mo : Nat) (ma : Nat → Nat) (cs : Nat → ClassId) (I : Nat → Int) (F : Nat → Int → Int) (p0 : Int) (p1 : Int) (sz : Nat) (hI : mIv I F) (hp01 : -2147483648 ≤ p0) (hp02 : p0 < 2147483648) (hp11 : -2147483648 ≤ p1) (hp12 : p1 < 2147483648) (hKb : mKb I F) : mMi l yX6_told (.code yX6_told cX6_told 10 (some .int)) 5 120 dC dI mo ma cs I F [.ref mo, .int (iz p0), .int (iz p1)] sz (fun (r : Int) (I' : Nat → Int) (F' : Nat → Int → Int) => mWk I F I' F' ∧ mKb I' F' ∧ I' 16 = 1 ∧ ∃ nn kd av mv : Int, wr_T p0 (wr_R I' F' (I' 1).toNat) 0 0 0 nn kd av mv ∧ ((I' 0 = 1 ∧ (¬ p0 = -1 ∧ (¬ (0 ≤ p0 ∧ p0 < nn) ∨ p1 < 0 ∨ 2 < p1))) ∨ (I' 0 = 0 ∧ ¬ (¬ p0 = -1 ∧ (¬ (0 ≤ p0 ∧ p0 < nn) ∨ p1 < 0 ∨ 2 < p1)) ∧ r = (if p0 = -1 then nn else if p1 = 0 then kd else if p1 = 1 then av else mv)))) := by
  refine Met.ofW (cc := cX6_told) (maxL := 10) (ret := (some .int)) (by decide) rfl ?_
  intro p e s m args below meth c s₁ B hml hv
  obtain ⟨rfl, hsz, hP, hK, hD0, hG, hZ⟩ := hv
  have hx := B.exec
  have hb := B.bytes
  have hr := B.returns
  have hts := kx_hts (a := ([.ref mo, .int (iz p0), .int (iz p1)] : List Value).toArray) hG
  have hown : s.vm.findClass RX6 = some m.cls := findClass_of_methodNamed B.named
  have hlocks := B.notSynchronized
  subst hsz
  have hD := hD0.self (sz := s.heap.size)
  generalize hAe : va_A (mW mo ma cs I F) s.heap.size = A at hD hZ ⊢
  have hA : ∀ q : Nat, s.heap.size ≤ q → A q := fun q h => by rw [← hAe]; exact Or.inr h
  have hS : va_S A s.heap s.heap [] := va_S.rf
  have hl := lv_entry ([.ref mo, .int (iz p0), .int (iz p1)]) (n := 10) (Nat.le_of_ble_eq_true rfl)
  rw [lg_entry_eq]
  generalize (lg_sl ([.ref mo, .int (iz p0), .int (iz p1)]) ++ List.replicate (10 - (lg_sl ([.ref mo, .int (iz p0), .int (iz p1)])).length) Slot.unset).toArray = ls at hl ⊢
  have hl : lv_has ls 10 [(0, .ref mo), (1, .int (iz p0)), (2, .int (iz p1))] := hl
  generalize hQe : MQ below (mQi dC dI mo ma cs A (fun (r : Int) (I' : Nat → Int) (F' : Nat → Int → Int) => mWk I F I' F' ∧ mKb I' F' ∧ I' 16 = 1 ∧ ∃ nn kd av mv : Int, wr_T p0 (wr_R I' F' (I' 1).toNat) 0 0 0 nn kd av mv ∧ ((I' 0 = 1 ∧ (¬ p0 = -1 ∧ (¬ (0 ≤ p0 ∧ p0 < nn) ∨ p1 < 0 ∨ 2 < p1))) ∨ (I' 0 = 0 ∧ ¬ (¬ p0 = -1 ∧ (¬ (0 ≤ p0 ∧ p0 < nn) ∨ p1 < 0 ∨ 2 < p1)) ∧ r = (if p0 = -1 then nn else if p1 = 0 then kd else if p1 = 1 then av else mv))))) ([.ref mo, .int (iz p0), .int (iz p1)] : List Value).toArray s 0 0 A = QQ
  have hW0 : mWk I F I F := mWk.rf hI
  have hc0 := hI.hc
  refine lv_aload_n hx hb dX6_told_0 rfl (lv_at hl 0 rfl) ?_
  refine mk_callv (As := []) (rest := []) ⟨hx, hb, hml, hown, hts⟩ (k_look2 l dC dI mo ma cs I F  s.heap.size hI.hB hI.hc hI.hn hI.hlv hI.hkn hI.hk01 hKb.2 hKb.1.1 hKb.1.2.1 hKb.1.2.2.1 hKb.1.2.2.2) (cwV 0 hts (kx_gV kq_11_mask_0 kq_11_mask_1 kq_11_mask_2 kq_04_msmall_6 kq_11_mask_3 rfl) rfl rfl rfl (by decide +kernel) ⟨Nat.le_of_ble_eq_true rfl, Nat.le_of_ble_eq_true rfl⟩) hP hD hK hG hZ hS hA rfl hl.1 rfl (Nat.le_of_ble_eq_true rfl) dX6_told_1 ⟨Nat.le_of_ble_eq_true rfl, Nat.le_of_ble_eq_true rfl⟩ (fun I_3 F_4 H locs hq_2 hP hD hS => ?_)
  try dsimp only at hq_2
  obtain ⟨hq_2, hkr5⟩ := hq_2
  have hkb5 : mKb I_3 F_4 := hKb.look hq_2.2.1 (by decide) hkr5
  have hk6 : mWk I F I_3 F_4 := mWk.look hI hq_2
  have hI6 : mIv I_3 F_4 := hI.go hk6
  have hw6 : mWk _ _ I_3 F_4 := hW0.tr hk6
  have e166 : I_3 16 = 1 := hq_2.2.2.1
  have hc6 := hI6.hc
  obtain ⟨hsmL, hszL, hrwL⟩ := hI6.hkn (by omega)
  refine lv_iconst (v := iz 0) hx hb dX6_told_4 (by decide) ?_
  refine lv_istore_n (lv' := [(3, .int (iz 0)), (0, .ref mo), (1, .int (iz p0)), (2, .int (iz p1))]) hx hb dX6_told_5 rfl hl (by decide) rfl (fun ls hl => ?_)
  refine lv_iconst (v := iz 0) hx hb dX6_told_6 (by decide) ?_
  refine lv_istore (lv' := [(4, .int (iz 0)), (3, .int (iz 0)), (0, .ref mo), (1, .int (iz p0)), (2, .int (iz p1))]) hx hb dX6_told_7 hl (by decide) rfl (fun ls hl => ?_)
  refine lv_iconst (v := iz 0) hx hb dX6_told_9 (by decide) ?_
  refine lv_istore (lv' := [(5, .int (iz 0)), (4, .int (iz 0)), (3, .int (iz 0)), (0, .ref mo), (1, .int (iz p0)), (2, .int (iz p1))]) hx hb dX6_told_10 hl (by decide) rfl (fun ls hl => ?_)
  refine lv_iconst (v := iz 0) hx hb dX6_told_12 (by decide) ?_
  refine lv_istore (lv' := [(6, .int (iz 0)), (5, .int (iz 0)), (4, .int (iz 0)), (3, .int (iz 0)), (0, .ref mo), (1, .int (iz p0)), (2, .int (iz p1))]) hx hb dX6_told_13 hl (by decide) rfl (fun ls hl => ?_)
  refine lv_iconst (v := iz 0) hx hb dX6_told_15 (by decide) ?_
  refine lv_istore (lv' := [(7, .int (iz 0)), (6, .int (iz 0)), (5, .int (iz 0)), (4, .int (iz 0)), (3, .int (iz 0)), (0, .ref mo), (1, .int (iz p0)), (2, .int (iz p1))]) hx hb dX6_told_16 hl (by decide) rfl (fun ls hl => ?_)
  have lp18 : ∀ (n : Nat) (nv kd av mv ev : Int), ((0 ≤ nv ∧ nv ≤ 7 * ev) ∧ (0 ≤ kd ∧ kd ≤ 3) ∧ (-2147483648 ≤ av ∧ av < 2147483648) ∧ (-2147483648 ≤ mv ∧ mv < 2147483648) ∧ (0 ≤ ev ∧ ev ≤ I_3 1) ∧ (wr_T p0 (wr_R I_3 F_4 ev.toNat) 0 0 0 nv kd av mv)) → (I_3 1 - ev).toNat < n → ∀ (H : Heap) (locs : List Loc), va_P (dC, dI) kxCl (mW mo ma cs I_3 F_4) H → va_D A (mW mo ma cs I_3 F_4) → va_S A s.heap H locs → ∀ ls : Array Slot, lv_has ls 10 [(7, .int (iz ev)), (6, .int (iz mv)), (5, .int (iz av)), (4, .int (iz kd)), (3, .int (iz nv)), (0, .ref mo), (1, .int (iz p0)), (2, .int (iz p1))] → W p l e (headSpec [.code yX6_told cX6_told 10 (some .int)] ({ frames := 5, cells := 0, slots := 0, locals := 120 })).room s m ([.ref mo, .int (iz p0), .int (iz p1)] : List Value).toArray below meth c H locs 0 0 QQ (F0 m 18 ls []) := by
    intro n
    induction n with
    | zero => intro nv kd av mv ev hinv hm; exact absurd hm (Nat.not_lt_zero _)
    | succ n ih18 =>
      intro nv kd av mv ev hinv hm H locs hP hD hS ls hl
      obtain ⟨hnv, hkd, hav, hmv, hev, hT⟩ := hinv
      replace hT := fun (_ : Unit) => hT
      refine lv_iload hx hb dX6_told_18 (lv_at hl 0 rfl) ?_
      refine lv_aload_n hx hb dX6_told_20 rfl (lv_at hl 5 rfl) ?_
      refine va_get (D := (dC, dI)) (ci := 6) (v := .int (iz (I_3 1))) (C := RX6) (T := TX6) (N := 44) hx hb hts kt_X6 hown hK hP 0 rfl rfl 1 (by decide) (kx_word hG kq_04_msmall_1 rfl) (fun _ h9 => h9) rfl dX6_told_21 ?_
      have hbd_7 := hI6.hB.1 1
      refine ki_icmp_ge (tgt := 224) hx hb dX6_told_24 (by decide) (by omega) (by omega) (by omega) (by omega) (fun c_8 => ?_) (fun c_8 => ?_)
      · skip
        refine lv_aload_n hx hb dX6_told_224 rfl (lv_at hl 5 rfl) ?_
        refine lv_iload_n hx hb dX6_told_225 rfl (lv_at hl 6 rfl) ?_
        refine lv_iconst (v := iz (-1)) hx hb dX6_told_226 (by decide) ?_
        refine ki_icmp_eq (tgt := 248) hx hb dX6_told_227 (by decide) (by omega) (by omega) (by omega) (by omega) (fun c_9 => ?_) (fun c_9 => ?_)
        · skip
          refine lv_iconst (v := iz 0) hx hb dX6_told_248 (by decide) ?_
          refine lv_iconst (v := iz 0) hx hb dX6_told_249 (by decide) ?_
          refine lv_iconst (v := iz 0) hx hb dX6_told_250 (by decide) ?_
          refine mk_calli (As := [.int (iz 0), .int (iz 0), .int (iz 0)]) (rest := []) ⟨hx, hb, hml, hown, hts⟩ (k_refused0 l dC dI mo ma cs I_3 F_4  H.size ) (cwV 3 hts (kx_gV kq_04_msmall_8 kq_04_msmall_9 kq_04_msmall_10 kq_04_msmall_6 kq_04_msmall_11 rfl) rfl rfl rfl (by decide +kernel) ⟨Nat.le_of_ble_eq_true rfl, Nat.le_of_ble_eq_true rfl⟩) hP hD hK hG hZ hS hA rfl hl.1 rfl (Nat.le_of_ble_eq_true rfl) dX6_told_251 ⟨Nat.le_of_ble_eq_true rfl, Nat.le_of_ble_eq_true rfl⟩ (fun z_10 I_12 F_13 H locs hq_11 hP hD hS => ?_)
          try dsimp only at hq_11
          obtain ⟨rfl, rfl, rfl⟩ := hq_11
          refine ki_if_eq (tgt := 259) hx hb dX6_told_254 (by decide) (by omega) (by omega) (fun c_14 => ?_) (fun c_14 => ?_)
          · skip
            refine lv_iload_n hx hb dX6_told_259 rfl (lv_at hl 6 rfl) ?_
            refine lv_iconst (v := iz (-1)) hx hb dX6_told_260 (by decide) ?_
            refine ki_icmp_ne (tgt := 268) hx hb dX6_told_261 (by decide) (by omega) (by omega) (by omega) (by omega) (fun c_15 => ?_) (fun c_15 => ?_)
            · omega
            · skip
              refine lv_iload_n hx hb dX6_told_264 rfl (lv_at hl 4 rfl) ?_
              refine lv_goto (tgt := 289) hx hb dX6_told_265 (by decide) ?_
              have hkd9 := wr_T_kind (hT ()) (wr_a_K (I_3 1) (F_4 2) (F_4 3) (F_4 17) (wr_pg F_4) (F_4 13) (F_4 11) (wr_se F_4) ev.toNat 0)
              have hk16 : mWk _ _ (va_up I_3 0 0) F_4 ∧ _ := mWk.thr hI6 (v := 0) (by omega)
              have hI16 : mIv (va_up I_3 0 0) F_4 := hI6.go hk16.1
              have hw16 : mWk _ _ (va_up I_3 0 0) F_4 := hw6.tr hk16.1
              have e1616 : (va_up I_3 0 0) 16 = _ := hk16.2.1
              have e1916 : (va_up I_3 0 0) 19 = _ := hk16.2.2
              have e116 : (va_up I_3 0 0) 1 = _ := hk16.1.2.1.1 1 (by decide)
              have hkb17 : mKb (va_up I_3 0 0) F_4 := hkb5.ui 0 (by decide) _
              rw [← hQe]
              exact mk_ireti hx hb hr hlocks hP hD hK hS dX6_told_289 (⟨hw16, hkb17, by omega, nv, kd, av, mv, (by show wr_T p0 (wr_R I_3 F_4 (I_3 1).toNat) 0 0 0 nv kd av mv; rw [show (I_3 1).toNat = ev.toNat by omega]; exact hT ()), Or.inr ⟨rfl, by omega, by first | (rw [if_pos (by omega)]) | (rw [if_neg (by omega), if_pos (by omega)]) | (rw [if_neg (by omega), if_neg (by omega), if_pos (by omega)]) | (rw [if_neg (by omega), if_neg (by omega), if_neg (by omega)])⟩⟩)
          · omega
        · skip
          refine lv_iload hx hb dX6_told_230 (lv_at hl 3 rfl) ?_
          refine ki_if_eq (tgt := 244) hx hb dX6_told_232 (by decide) (by omega) (by omega) (fun c_18 => ?_) (fun c_18 => ?_)
          · skip
            refine lv_iconst (v := iz 1) hx hb dX6_told_244 (by decide) ?_
            refine lv_goto (tgt := 249) hx hb dX6_told_245 (by decide) ?_
            refine lv_iconst (v := iz 0) hx hb dX6_told_249 (by decide) ?_
            refine lv_iconst (v := iz 0) hx hb dX6_told_250 (by decide) ?_
            refine mk_calli (As := [.int (iz 1), .int (iz 0), .int (iz 0)]) (rest := []) ⟨hx, hb, hml, hown, hts⟩ (k_refused1 l dC dI mo ma cs I_3 F_4 0 0 H.size (by omega) (by omega) (by omega) (by omega)) (cwV 3 hts (kx_gV kq_04_msmall_8 kq_04_msmall_9 kq_04_msmall_10 kq_04_msmall_6 kq_04_msmall_11 rfl) rfl rfl rfl (by decide +kernel) ⟨Nat.le_of_ble_eq_true rfl, Nat.le_of_ble_eq_true rfl⟩) hP hD hK hG hZ hS hA rfl hl.1 rfl (Nat.le_of_ble_eq_true rfl) dX6_told_251 ⟨Nat.le_of_ble_eq_true rfl, Nat.le_of_ble_eq_true rfl⟩ (fun z_19 I_21 F_22 H locs hq_20 hP hD hS => ?_)
            try dsimp only at hq_20
            obtain ⟨rfl, rfl, rfl⟩ := hq_20
            refine ki_if_eq (tgt := 259) hx hb dX6_told_254 (by decide) (by omega) (by omega) (fun c_23 => ?_) (fun c_23 => ?_)
            · omega
            · skip
              refine lv_iconst (v := iz 0) hx hb dX6_told_257 (by decide) ?_
              have hkd9 := wr_T_kind (hT ()) (wr_a_K (I_3 1) (F_4 2) (F_4 3) (F_4 17) (wr_pg F_4) (F_4 13) (F_4 11) (wr_se F_4) ev.toNat 0)
              have hk24 : mWk _ _ (va_up I_3 0 1) F_4 ∧ _ := mWk.thr hI6 (v := 1) (by omega)
              have hI24 : mIv (va_up I_3 0 1) F_4 := hI6.go hk24.1
              have hw24 : mWk _ _ (va_up I_3 0 1) F_4 := hw6.tr hk24.1
              have e1624 : (va_up I_3 0 1) 16 = _ := hk24.2.1
              have e1924 : (va_up I_3 0 1) 19 = _ := hk24.2.2
              have e124 : (va_up I_3 0 1) 1 = _ := hk24.1.2.1.1 1 (by decide)
              have hkb25 : mKb (va_up I_3 0 1) F_4 := hkb5.ui 0 (by decide) _
              rw [← hQe]
              exact mk_ireti hx hb hr hlocks hP hD hK hS dX6_told_258 (⟨hw24, hkb25, by omega, nv, kd, av, mv, (by show wr_T p0 (wr_R I_3 F_4 (I_3 1).toNat) 0 0 0 nv kd av mv; rw [show (I_3 1).toNat = ev.toNat by omega]; exact hT ()), Or.inl ⟨rfl, by omega⟩⟩)
          · skip
            refine lv_iload_n hx hb dX6_told_235 rfl (lv_at hl 7 rfl) ?_
            refine ki_if_lt (tgt := 244) hx hb dX6_told_236 (by decide) (by omega) (by omega) (fun c_26 => ?_) (fun c_26 => ?_)
            · skip
              refine lv_iconst (v := iz 1) hx hb dX6_told_244 (by decide) ?_
              refine lv_goto (tgt := 249) hx hb dX6_told_245 (by decide) ?_
              refine lv_iconst (v := iz 0) hx hb dX6_told_249 (by decide) ?_
              refine lv_iconst (v := iz 0) hx hb dX6_told_250 (by decide) ?_
              refine mk_calli (As := [.int (iz 1), .int (iz 0), .int (iz 0)]) (rest := []) ⟨hx, hb, hml, hown, hts⟩ (k_refused1 l dC dI mo ma cs I_3 F_4 0 0 H.size (by omega) (by omega) (by omega) (by omega)) (cwV 3 hts (kx_gV kq_04_msmall_8 kq_04_msmall_9 kq_04_msmall_10 kq_04_msmall_6 kq_04_msmall_11 rfl) rfl rfl rfl (by decide +kernel) ⟨Nat.le_of_ble_eq_true rfl, Nat.le_of_ble_eq_true rfl⟩) hP hD hK hG hZ hS hA rfl hl.1 rfl (Nat.le_of_ble_eq_true rfl) dX6_told_251 ⟨Nat.le_of_ble_eq_true rfl, Nat.le_of_ble_eq_true rfl⟩ (fun z_27 I_29 F_30 H locs hq_28 hP hD hS => ?_)
              try dsimp only at hq_28
              obtain ⟨rfl, rfl, rfl⟩ := hq_28
              refine ki_if_eq (tgt := 259) hx hb dX6_told_254 (by decide) (by omega) (by omega) (fun c_31 => ?_) (fun c_31 => ?_)
              · omega
              · skip
                refine lv_iconst (v := iz 0) hx hb dX6_told_257 (by decide) ?_
                have hkd9 := wr_T_kind (hT ()) (wr_a_K (I_3 1) (F_4 2) (F_4 3) (F_4 17) (wr_pg F_4) (F_4 13) (F_4 11) (wr_se F_4) ev.toNat 0)
                have hk32 : mWk _ _ (va_up I_3 0 1) F_4 ∧ _ := mWk.thr hI6 (v := 1) (by omega)
                have hI32 : mIv (va_up I_3 0 1) F_4 := hI6.go hk32.1
                have hw32 : mWk _ _ (va_up I_3 0 1) F_4 := hw6.tr hk32.1
                have e1632 : (va_up I_3 0 1) 16 = _ := hk32.2.1
                have e1932 : (va_up I_3 0 1) 19 = _ := hk32.2.2
                have e132 : (va_up I_3 0 1) 1 = _ := hk32.1.2.1.1 1 (by decide)
                have hkb33 : mKb (va_up I_3 0 1) F_4 := hkb5.ui 0 (by decide) _
                rw [← hQe]
                exact mk_ireti hx hb hr hlocks hP hD hK hS dX6_told_258 (⟨hw32, hkb33, by omega, nv, kd, av, mv, (by show wr_T p0 (wr_R I_3 F_4 (I_3 1).toNat) 0 0 0 nv kd av mv; rw [show (I_3 1).toNat = ev.toNat by omega]; exact hT ()), Or.inl ⟨rfl, by omega⟩⟩)
            · skip
              refine lv_iload_n hx hb dX6_told_239 rfl (lv_at hl 7 rfl) ?_
              refine lv_iconst (v := iz 2) hx hb dX6_told_240 (by decide) ?_
              refine ki_icmp_le (tgt := 248) hx hb dX6_told_241 (by decide) (by omega) (by omega) (by omega) (by omega) (fun c_34 => ?_) (fun c_34 => ?_)
              · skip
                refine lv_iconst (v := iz 0) hx hb dX6_told_248 (by decide) ?_
                refine lv_iconst (v := iz 0) hx hb dX6_told_249 (by decide) ?_
                refine lv_iconst (v := iz 0) hx hb dX6_told_250 (by decide) ?_
                refine mk_calli (As := [.int (iz 0), .int (iz 0), .int (iz 0)]) (rest := []) ⟨hx, hb, hml, hown, hts⟩ (k_refused0 l dC dI mo ma cs I_3 F_4  H.size ) (cwV 3 hts (kx_gV kq_04_msmall_8 kq_04_msmall_9 kq_04_msmall_10 kq_04_msmall_6 kq_04_msmall_11 rfl) rfl rfl rfl (by decide +kernel) ⟨Nat.le_of_ble_eq_true rfl, Nat.le_of_ble_eq_true rfl⟩) hP hD hK hG hZ hS hA rfl hl.1 rfl (Nat.le_of_ble_eq_true rfl) dX6_told_251 ⟨Nat.le_of_ble_eq_true rfl, Nat.le_of_ble_eq_true rfl⟩ (fun z_35 I_37 F_38 H locs hq_36 hP hD hS => ?_)
                try dsimp only at hq_36
                obtain ⟨rfl, rfl, rfl⟩ := hq_36
                refine ki_if_eq (tgt := 259) hx hb dX6_told_254 (by decide) (by omega) (by omega) (fun c_39 => ?_) (fun c_39 => ?_)
                · skip
                  refine lv_iload_n hx hb dX6_told_259 rfl (lv_at hl 6 rfl) ?_
                  refine lv_iconst (v := iz (-1)) hx hb dX6_told_260 (by decide) ?_
                  refine ki_icmp_ne (tgt := 268) hx hb dX6_told_261 (by decide) (by omega) (by omega) (by omega) (by omega) (fun c_40 => ?_) (fun c_40 => ?_)
                  · skip
                    refine lv_iload_n hx hb dX6_told_268 rfl (lv_at hl 7 rfl) ?_
                    refine ki_if_ne (tgt := 277) hx hb dX6_told_269 (by decide) (by omega) (by omega) (fun c_41 => ?_) (fun c_41 => ?_)
                    · skip
                      refine lv_iload_n hx hb dX6_told_277 rfl (lv_at hl 7 rfl) ?_
                      refine lv_iconst (v := iz 1) hx hb dX6_told_278 (by decide) ?_
                      refine ki_icmp_ne (tgt := 287) hx hb dX6_told_279 (by decide) (by omega) (by omega) (by omega) (by omega) (fun c_42 => ?_) (fun c_42 => ?_)
                      · skip
                        refine lv_iload hx hb dX6_told_287 (lv_at hl 1 rfl) ?_
                        have hkd9 := wr_T_kind (hT ()) (wr_a_K (I_3 1) (F_4 2) (F_4 3) (F_4 17) (wr_pg F_4) (F_4 13) (F_4 11) (wr_se F_4) ev.toNat 0)
                        have hk43 : mWk _ _ (va_up I_3 0 0) F_4 ∧ _ := mWk.thr hI6 (v := 0) (by omega)
                        have hI43 : mIv (va_up I_3 0 0) F_4 := hI6.go hk43.1
                        have hw43 : mWk _ _ (va_up I_3 0 0) F_4 := hw6.tr hk43.1
                        have e1643 : (va_up I_3 0 0) 16 = _ := hk43.2.1
                        have e1943 : (va_up I_3 0 0) 19 = _ := hk43.2.2
                        have e143 : (va_up I_3 0 0) 1 = _ := hk43.1.2.1.1 1 (by decide)
                        have hkb44 : mKb (va_up I_3 0 0) F_4 := hkb5.ui 0 (by decide) _
                        rw [← hQe]
                        exact mk_ireti hx hb hr hlocks hP hD hK hS dX6_told_289 (⟨hw43, hkb44, by omega, nv, kd, av, mv, (by show wr_T p0 (wr_R I_3 F_4 (I_3 1).toNat) 0 0 0 nv kd av mv; rw [show (I_3 1).toNat = ev.toNat by omega]; exact hT ()), Or.inr ⟨rfl, by omega, by first | (rw [if_pos (by omega)]) | (rw [if_neg (by omega), if_pos (by omega)]) | (rw [if_neg (by omega), if_neg (by omega), if_pos (by omega)]) | (rw [if_neg (by omega), if_neg (by omega), if_neg (by omega)])⟩⟩)
                      · skip
                        refine lv_iload hx hb dX6_told_282 (lv_at hl 2 rfl) ?_
                        refine lv_goto (tgt := 289) hx hb dX6_told_284 (by decide) ?_
                        have hkd9 := wr_T_kind (hT ()) (wr_a_K (I_3 1) (F_4 2) (F_4 3) (F_4 17) (wr_pg F_4) (F_4 13) (F_4 11) (wr_se F_4) ev.toNat 0)
                        have hk45 : mWk _ _ (va_up I_3 0 0) F_4 ∧ _ := mWk.thr hI6 (v := 0) (by omega)
                        have hI45 : mIv (va_up I_3 0 0) F_4 := hI6.go hk45.1
                        have hw45 : mWk _ _ (va_up I_3 0 0) F_4 := hw6.tr hk45.1
                        have e1645 : (va_up I_3 0 0) 16 = _ := hk45.2.1
                        have e1945 : (va_up I_3 0 0) 19 = _ := hk45.2.2
                        have e145 : (va_up I_3 0 0) 1 = _ := hk45.1.2.1.1 1 (by decide)
                        have hkb46 : mKb (va_up I_3 0 0) F_4 := hkb5.ui 0 (by decide) _
                        rw [← hQe]
                        exact mk_ireti hx hb hr hlocks hP hD hK hS dX6_told_289 (⟨hw45, hkb46, by omega, nv, kd, av, mv, (by show wr_T p0 (wr_R I_3 F_4 (I_3 1).toNat) 0 0 0 nv kd av mv; rw [show (I_3 1).toNat = ev.toNat by omega]; exact hT ()), Or.inr ⟨rfl, by omega, by first | (rw [if_pos (by omega)]) | (rw [if_neg (by omega), if_pos (by omega)]) | (rw [if_neg (by omega), if_neg (by omega), if_pos (by omega)]) | (rw [if_neg (by omega), if_neg (by omega), if_neg (by omega)])⟩⟩)
                    · skip
                      refine lv_iload hx hb dX6_told_272 (lv_at hl 3 rfl) ?_
                      refine lv_goto (tgt := 289) hx hb dX6_told_274 (by decide) ?_
                      have hkd9 := wr_T_kind (hT ()) (wr_a_K (I_3 1) (F_4 2) (F_4 3) (F_4 17) (wr_pg F_4) (F_4 13) (F_4 11) (wr_se F_4) ev.toNat 0)
                      have hk47 : mWk _ _ (va_up I_3 0 0) F_4 ∧ _ := mWk.thr hI6 (v := 0) (by omega)
                      have hI47 : mIv (va_up I_3 0 0) F_4 := hI6.go hk47.1
                      have hw47 : mWk _ _ (va_up I_3 0 0) F_4 := hw6.tr hk47.1
                      have e1647 : (va_up I_3 0 0) 16 = _ := hk47.2.1
                      have e1947 : (va_up I_3 0 0) 19 = _ := hk47.2.2
                      have e147 : (va_up I_3 0 0) 1 = _ := hk47.1.2.1.1 1 (by decide)
                      have hkb48 : mKb (va_up I_3 0 0) F_4 := hkb5.ui 0 (by decide) _
                      rw [← hQe]
                      exact mk_ireti hx hb hr hlocks hP hD hK hS dX6_told_289 (⟨hw47, hkb48, by omega, nv, kd, av, mv, (by show wr_T p0 (wr_R I_3 F_4 (I_3 1).toNat) 0 0 0 nv kd av mv; rw [show (I_3 1).toNat = ev.toNat by omega]; exact hT ()), Or.inr ⟨rfl, by omega, by first | (rw [if_pos (by omega)]) | (rw [if_neg (by omega), if_pos (by omega)]) | (rw [if_neg (by omega), if_neg (by omega), if_pos (by omega)]) | (rw [if_neg (by omega), if_neg (by omega), if_neg (by omega)])⟩⟩)
                  · omega
                · omega
              · skip
                refine lv_iconst (v := iz 1) hx hb dX6_told_244 (by decide) ?_
                refine lv_goto (tgt := 249) hx hb dX6_told_245 (by decide) ?_
                refine lv_iconst (v := iz 0) hx hb dX6_told_249 (by decide) ?_
                refine lv_iconst (v := iz 0) hx hb dX6_told_250 (by decide) ?_
                refine mk_calli (As := [.int (iz 1), .int (iz 0), .int (iz 0)]) (rest := []) ⟨hx, hb, hml, hown, hts⟩ (k_refused1 l dC dI mo ma cs I_3 F_4 0 0 H.size (by omega) (by omega) (by omega) (by omega)) (cwV 3 hts (kx_gV kq_04_msmall_8 kq_04_msmall_9 kq_04_msmall_10 kq_04_msmall_6 kq_04_msmall_11 rfl) rfl rfl rfl (by decide +kernel) ⟨Nat.le_of_ble_eq_true rfl, Nat.le_of_ble_eq_true rfl⟩) hP hD hK hG hZ hS hA rfl hl.1 rfl (Nat.le_of_ble_eq_true rfl) dX6_told_251 ⟨Nat.le_of_ble_eq_true rfl, Nat.le_of_ble_eq_true rfl⟩ (fun z_49 I_51 F_52 H locs hq_50 hP hD hS => ?_)
                try dsimp only at hq_50
                obtain ⟨rfl, rfl, rfl⟩ := hq_50
                refine ki_if_eq (tgt := 259) hx hb dX6_told_254 (by decide) (by omega) (by omega) (fun c_53 => ?_) (fun c_53 => ?_)
                · omega
                · skip
                  refine lv_iconst (v := iz 0) hx hb dX6_told_257 (by decide) ?_
                  have hkd9 := wr_T_kind (hT ()) (wr_a_K (I_3 1) (F_4 2) (F_4 3) (F_4 17) (wr_pg F_4) (F_4 13) (F_4 11) (wr_se F_4) ev.toNat 0)
                  have hk54 : mWk _ _ (va_up I_3 0 1) F_4 ∧ _ := mWk.thr hI6 (v := 1) (by omega)
                  have hI54 : mIv (va_up I_3 0 1) F_4 := hI6.go hk54.1
                  have hw54 : mWk _ _ (va_up I_3 0 1) F_4 := hw6.tr hk54.1
                  have e1654 : (va_up I_3 0 1) 16 = _ := hk54.2.1
                  have e1954 : (va_up I_3 0 1) 19 = _ := hk54.2.2
                  have e154 : (va_up I_3 0 1) 1 = _ := hk54.1.2.1.1 1 (by decide)
                  have hkb55 : mKb (va_up I_3 0 1) F_4 := hkb5.ui 0 (by decide) _
                  rw [← hQe]
                  exact mk_ireti hx hb hr hlocks hP hD hK hS dX6_told_258 (⟨hw54, hkb55, by omega, nv, kd, av, mv, (by show wr_T p0 (wr_R I_3 F_4 (I_3 1).toNat) 0 0 0 nv kd av mv; rw [show (I_3 1).toNat = ev.toNat by omega]; exact hT ()), Or.inl ⟨rfl, by omega⟩⟩)
      · skip
        have hmy9 := hI6.hmy ev
        refine lv_aload_n hx hb dX6_told_27 rfl (lv_at hl 5 rfl) ?_
        refine va_get (D := (dC, dI)) (ci := 6) (v := .ref (ma 11)) (C := RX6) (T := TX6) (N := 44) hx hb hts kt_X6 hown hK hP 0 rfl rfl 11 (by decide) (kx_word hG kq_04_msmall_21 rfl) (fun _ h9 => h9) rfl dX6_told_28 ?_
        refine lv_iload hx hb dX6_told_31 (lv_at hl 0 rfl) ?_
        refine ki_iald (F := F_4 11) hx hb hK hP 10 9 rfl rfl (by omega) (by omega) (by decide) dX6_told_33 ?_
        have hbd_56 := hI6.hB.2 11 ev
        refine ki_if_le (tgt := 86) hx hb dX6_told_34 (by decide) (by omega) (by omega) (fun c_57 => ?_) (fun c_57 => ?_)
        · skip
          refine lv_iconst (v := iz 0) hx hb dX6_told_86 (by decide) ?_
          refine lv_istore (lv' := [(8, .int (iz 0)), (7, .int (iz ev)), (6, .int (iz mv)), (5, .int (iz av)), (4, .int (iz kd)), (3, .int (iz nv)), (0, .ref mo), (1, .int (iz p0)), (2, .int (iz p1))]) hx hb dX6_told_87 hl (by decide) rfl (fun ls hl => ?_)
          have lp89 : ∀ (n : Nat) (nw kw aw mw kv : Int), ((0 ≤ nw ∧ nw ≤ 7 * ev + 1 + kv) ∧ (0 ≤ kw ∧ kw ≤ 3) ∧ (-2147483648 ≤ aw ∧ aw < 2147483648) ∧ (-2147483648 ≤ mw ∧ mw < 2147483648) ∧ (0 ≤ kv ∧ kv ≤ F_4 13 ev) ∧ (wr_T p0 (wr_R I_3 F_4 ev.toNat ++ (wr_o (F_4 11) ev ++ wr_s (I_3 1) (F_4 17) (wr_pg F_4) (wr_se F_4) ev (kv).toNat 0)) 0 0 0 nw kw aw mw)) → (F_4 13 ev - kv).toNat < n → ∀ (H : Heap) (locs : List Loc), va_P (dC, dI) kxCl (mW mo ma cs I_3 F_4) H → va_D A (mW mo ma cs I_3 F_4) → va_S A s.heap H locs → ∀ ls : Array Slot, lv_has ls 10 [(8, .int (iz kv)), (7, .int (iz ev)), (6, .int (iz mw)), (5, .int (iz aw)), (4, .int (iz kw)), (3, .int (iz nw)), (0, .ref mo), (1, .int (iz p0)), (2, .int (iz p1))] → W p l e (headSpec [.code yX6_told cX6_told 10 (some .int)] ({ frames := 5, cells := 0, slots := 0, locals := 120 })).room s m ([.ref mo, .int (iz p0), .int (iz p1)] : List Value).toArray below meth c H locs 0 0 QQ (F0 m 89 ls []) := by
            intro n
            induction n with
            | zero => intro nw kw aw mw kv hinv hm; exact absurd hm (Nat.not_lt_zero _)
            | succ n ih89 =>
              intro nw kw aw mw kv hinv hm H locs hP hD hS ls hl
              obtain ⟨hnw, hkw, haw, hmw, hkv, hT2⟩ := hinv
              replace hT2 := fun (_ : Unit) => hT2
              refine lv_iload hx hb dX6_told_89 (lv_at hl 0 rfl) ?_
              refine lv_aload_n hx hb dX6_told_91 rfl (lv_at hl 6 rfl) ?_
              refine va_get (D := (dC, dI)) (ci := 6) (v := .ref (ma 13)) (C := RX6) (T := TX6) (N := 44) hx hb hts kt_X6 hown hK hP 0 rfl rfl 13 (by decide) (kx_word hG kq_04_msmall_38 rfl) (fun _ h9 => h9) rfl dX6_told_92 ?_
              refine lv_iload hx hb dX6_told_95 (lv_at hl 1 rfl) ?_
              refine ki_iald (F := F_4 13) hx hb hK hP 12 11 rfl rfl (by omega) (by omega) (by decide) dX6_told_97 ?_
              have hbd_58 := hI6.hB.2 13 ev
              refine ki_icmp_ge (tgt := 179) hx hb dX6_told_98 (by decide) (by omega) (by omega) (by omega) (by omega) (fun c_59 => ?_) (fun c_59 => ?_)
              · skip
                refine lv_aload_n hx hb dX6_told_179 rfl (lv_at hl 6 rfl) ?_
                refine lv_iload hx hb dX6_told_180 (lv_at hl 1 rfl) ?_
                refine mk_calli (As := [.int (iz ev)]) (rest := []) ⟨hx, hb, hml, hown, hts⟩ (k_isBare2 l dC dI mo ma cs I_3 F_4 ev H.size hI6.hB hI6.hc hI6.hln hI6.hlv (by omega)) (cwV 1 hts (kx_gV kq_11_mask_4 kq_11_mask_5 kq_11_mask_6 kq_04_msmall_6 kq_11_mask_7 rfl) rfl rfl rfl (by decide +kernel) ⟨Nat.le_of_ble_eq_true rfl, Nat.le_of_ble_eq_true rfl⟩) hP hD hK hG hZ hS hA rfl hl.1 rfl (Nat.le_of_ble_eq_true rfl) dX6_told_182 ⟨Nat.le_of_ble_eq_true rfl, Nat.le_of_ble_eq_true rfl⟩ (fun z_60 I_62 F_63 H locs hq_61 hP hD hS => ?_)
                try dsimp only at hq_61
                obtain ⟨rfl, rfl, hq_61⟩ := hq_61
                rcases hq_61 with ⟨rfl, hq_61⟩ | ⟨rfl, hq_61⟩
                · skip
                  refine ki_if_eq (tgt := 218) hx hb dX6_told_185 (by decide) (by omega) (by omega) (fun c_64 => ?_) (fun c_64 => ?_)
                  · omega
                  · skip
                    refine lv_iload_n hx hb dX6_told_188 rfl (lv_at hl 5 rfl) ?_
                    refine lv_iload_n hx hb dX6_told_189 rfl (lv_at hl 7 rfl) ?_
                    refine ki_icmp_ne (tgt := 197) hx hb dX6_told_190 (by decide) (by omega) (by omega) (by omega) (by omega) (fun c_65 => ?_) (fun c_65 => ?_)
                    · skip
                      refine lv_iload hx hb dX6_told_197 (lv_at hl 4 rfl) ?_
                      refine lv_istore (lv' := [(4, .int (iz kw)), (8, .int (iz kv)), (7, .int (iz ev)), (6, .int (iz mw)), (5, .int (iz aw)), (3, .int (iz nw)), (0, .ref mo), (1, .int (iz p0)), (2, .int (iz p1))]) hx hb dX6_told_199 hl (by decide) rfl (fun ls hl => ?_)
                      refine lv_iload_n hx hb dX6_told_201 rfl (lv_at hl 5 rfl) ?_
                      refine lv_iload_n hx hb dX6_told_202 rfl (lv_at hl 7 rfl) ?_
                      refine ki_icmp_ne (tgt := 211) hx hb dX6_told_203 (by decide) (by omega) (by omega) (by omega) (by omega) (fun c_66 => ?_) (fun c_66 => ?_)
                      · skip
                        refine lv_iload hx hb dX6_told_211 (lv_at hl 4 rfl) ?_
                        refine lv_istore (lv' := [(5, .int (iz aw)), (4, .int (iz kw)), (8, .int (iz kv)), (7, .int (iz ev)), (6, .int (iz mw)), (3, .int (iz nw)), (0, .ref mo), (1, .int (iz p0)), (2, .int (iz p1))]) hx hb dX6_told_213 hl (by decide) rfl (fun ls hl => ?_)
                        refine lv_iinc (v := iz (nw + 1)) (lv' := [(3, .int (iz (nw + 1))), (5, .int (iz aw)), (4, .int (iz kw)), (8, .int (iz kv)), (7, .int (iz ev)), (6, .int (iz mw)), (0, .ref mo), (1, .int (iz p0)), (2, .int (iz p1))]) hx hb dX6_told_215 hl (k := 5) rfl (iz_add nw 1) (by decide) rfl (fun ls hl => ?_)
                        refine lv_iinc (v := iz (ev + 1)) (lv' := [(7, .int (iz (ev + 1))), (3, .int (iz (nw + 1))), (5, .int (iz aw)), (4, .int (iz kw)), (8, .int (iz kv)), (6, .int (iz mw)), (0, .ref mo), (1, .int (iz p0)), (2, .int (iz p1))]) hx hb dX6_told_218 hl (k := 4) rfl (iz_add ev 1) (by decide) rfl (fun ls hl => ?_)
                        refine lv_goto (tgt := 18) hx hb dX6_told_221 (by decide) ?_
                        exact ih18 (nw + 1) kw aw mw (ev + 1) ⟨by omega, by omega, by omega, by omega, by omega, (by rw [(show wr_R I_3 F_4 (ev + 1).toNat = (wr_R I_3 F_4 ev.toNat ++ (wr_o (F_4 11) ev ++ wr_s (I_3 1) (F_4 17) (wr_pg F_4) (wr_se F_4) ev (kv).toNat 0)) ++ _ from (by unfold wr_R; rw [show (ev + 1).toNat = ev.toNat + 1 by omega, wr_a_app, show (0 : Int) + ((ev.toNat : Nat) : Int) = ev by omega]; unfold wr_e; rw [show F_4 13 ev = kv by omega, ← List.append_assoc (wr_o (F_4 11) ev), ← List.append_assoc])), wr_b_t hq_61, if_pos rfl]; exact wr_T_miss _ (hT2 ()) (by omega))⟩ (by omega) _ _ hP hD hS ls (lv_sub hl [0, 5, 2, 3, 1, 6, 7, 8] rfl)
                      · omega
                    · skip
                      refine lv_iconst (v := iz 3) hx hb dX6_told_193 (by decide) ?_
                      refine lv_goto (tgt := 199) hx hb dX6_told_194 (by decide) ?_
                      refine lv_istore (lv' := [(4, .int (iz 3)), (8, .int (iz kv)), (7, .int (iz ev)), (6, .int (iz mw)), (5, .int (iz aw)), (3, .int (iz nw)), (0, .ref mo), (1, .int (iz p0)), (2, .int (iz p1))]) hx hb dX6_told_199 hl (by decide) rfl (fun ls hl => ?_)
                      refine lv_iload_n hx hb dX6_told_201 rfl (lv_at hl 5 rfl) ?_
                      refine lv_iload_n hx hb dX6_told_202 rfl (lv_at hl 7 rfl) ?_
                      refine ki_icmp_ne (tgt := 211) hx hb dX6_told_203 (by decide) (by omega) (by omega) (by omega) (by omega) (fun c_67 => ?_) (fun c_67 => ?_)
                      · omega
                      · skip
                        refine lv_iload hx hb dX6_told_206 (lv_at hl 2 rfl) ?_
                        refine lv_goto (tgt := 213) hx hb dX6_told_208 (by decide) ?_
                        refine lv_istore (lv' := [(5, .int (iz ev)), (4, .int (iz 3)), (8, .int (iz kv)), (7, .int (iz ev)), (6, .int (iz mw)), (3, .int (iz nw)), (0, .ref mo), (1, .int (iz p0)), (2, .int (iz p1))]) hx hb dX6_told_213 hl (by decide) rfl (fun ls hl => ?_)
                        refine lv_iinc (v := iz (nw + 1)) (lv' := [(3, .int (iz (nw + 1))), (5, .int (iz ev)), (4, .int (iz 3)), (8, .int (iz kv)), (7, .int (iz ev)), (6, .int (iz mw)), (0, .ref mo), (1, .int (iz p0)), (2, .int (iz p1))]) hx hb dX6_told_215 hl (k := 5) rfl (iz_add nw 1) (by decide) rfl (fun ls hl => ?_)
                        have hat9 := wr_T_at (hT2 ()) (by omega)
                        refine lv_iinc (v := iz (ev + 1)) (lv' := [(7, .int (iz (ev + 1))), (3, .int (iz (nw + 1))), (5, .int (iz ev)), (4, .int (iz 3)), (8, .int (iz kv)), (6, .int (iz mw)), (0, .ref mo), (1, .int (iz p0)), (2, .int (iz p1))]) hx hb dX6_told_218 hl (k := 4) rfl (iz_add ev 1) (by decide) rfl (fun ls hl => ?_)
                        refine lv_goto (tgt := 18) hx hb dX6_told_221 (by decide) ?_
                        exact ih18 (nw + 1) 3 ev mw (ev + 1) ⟨by omega, by omega, by omega, by omega, by omega, (by rw [(show wr_R I_3 F_4 (ev + 1).toNat = (wr_R I_3 F_4 ev.toNat ++ (wr_o (F_4 11) ev ++ wr_s (I_3 1) (F_4 17) (wr_pg F_4) (wr_se F_4) ev (kv).toNat 0)) ++ _ from (by unfold wr_R; rw [show (ev + 1).toNat = ev.toNat + 1 by omega, wr_a_app, show (0 : Int) + ((ev.toNat : Nat) : Int) = ev by omega]; unfold wr_e; rw [show F_4 13 ev = kv by omega, ← List.append_assoc (wr_o (F_4 11) ev), ← List.append_assoc])), wr_b_t hq_61, if_pos rfl]; exact (by rw [hat9.2.2]; exact wr_T_hit (hT2 ()) (by omega)))⟩ (by omega) _ _ hP hD hS ls (lv_sub hl [0, 5, 2, 3, 1, 6, 7, 8] rfl)
                · skip
                  refine ki_if_eq (tgt := 218) hx hb dX6_told_185 (by decide) (by omega) (by omega) (fun c_68 => ?_) (fun c_68 => ?_)
                  · skip
                    refine lv_iinc (v := iz (ev + 1)) (lv' := [(7, .int (iz (ev + 1))), (8, .int (iz kv)), (6, .int (iz mw)), (5, .int (iz aw)), (4, .int (iz kw)), (3, .int (iz nw)), (0, .ref mo), (1, .int (iz p0)), (2, .int (iz p1))]) hx hb dX6_told_218 hl (k := 1) rfl (iz_add ev 1) (by decide) rfl (fun ls hl => ?_)
                    refine lv_goto (tgt := 18) hx hb dX6_told_221 (by decide) ?_
                    exact ih18 nw kw aw mw (ev + 1) ⟨by omega, by omega, by omega, by omega, by omega, (by rw [(show wr_R I_3 F_4 (ev + 1).toNat = (wr_R I_3 F_4 ev.toNat ++ (wr_o (F_4 11) ev ++ wr_s (I_3 1) (F_4 17) (wr_pg F_4) (wr_se F_4) ev (kv).toNat 0)) ++ _ from (by unfold wr_R; rw [show (ev + 1).toNat = ev.toNat + 1 by omega, wr_a_app, show (0 : Int) + ((ev.toNat : Nat) : Int) = ev by omega]; unfold wr_e; rw [show F_4 13 ev = kv by omega, ← List.append_assoc (wr_o (F_4 11) ev), ← List.append_assoc])), wr_b_f hq_61, if_neg (by decide), List.append_nil]; exact hT2 ())⟩ (by omega) _ _ hP hD hS ls (lv_sub hl [0, 2, 3, 4, 5, 6, 7, 8] rfl)
                  · omega
              · skip
                have hse9 := hI6.hse ev kv (by omega) (by omega) (by omega) (by omega)
                refine lv_aload_n hx hb dX6_told_101 rfl (lv_at hl 6 rfl) ?_
                refine va_get (D := (dC, dI)) (ci := 6) (v := .ref (ma 12)) (C := RX6) (T := TX6) (N := 44) hx hb hts kt_X6 hown hK hP 0 rfl rfl 12 (by decide) (kx_word hG kq_04_msmall_39 rfl) (fun _ h9 => h9) rfl dX6_told_102 ?_
                refine lv_iconst (v := iz 5) hx hb dX6_told_105 (by decide) ?_
                refine lv_iload hx hb dX6_told_106 (lv_at hl 1 rfl) ?_
                refine ki_imul hx hb dX6_told_108 ?_
                refine lv_iload hx hb dX6_told_109 (lv_at hl 0 rfl) ?_
                refine ki_iadd hx hb dX6_told_111 ?_
                refine ki_iald (F := F_4 12) hx hb hK hP 11 10 rfl rfl (by omega) (by omega) (by decide) dX6_told_112 ?_
                have hbd_69 := hI6.hB.2 12 ((5 * ev) + kv)
                refine lv_istore (lv' := [(9, .int (iz (F_4 12 ((5 * ev) + kv)))), (8, .int (iz kv)), (7, .int (iz ev)), (6, .int (iz mw)), (5, .int (iz aw)), (4, .int (iz kw)), (3, .int (iz nw)), (0, .ref mo), (1, .int (iz p0)), (2, .int (iz p1))]) hx hb dX6_told_113 hl (by decide) rfl (fun ls hl => ?_)
                refine lv_aload_n hx hb dX6_told_115 rfl (lv_at hl 7 rfl) ?_
                refine lv_aload_n hx hb dX6_told_116 rfl (lv_at hl 7 rfl) ?_
                refine va_get (D := (dC, dI)) (ci := 6) (v := .ref (ma 17)) (C := RX6) (T := TX6) (N := 44) hx hb hts kt_X6 hown hK hP 0 rfl rfl 17 (by decide) (kx_word hG kq_06_mway_15 rfl) (fun _ h9 => h9) rfl dX6_told_117 ?_
                have hsm9 := hsmL (F_4 12 ((5 * ev) + kv)) (by omega) (by omega)
                refine lv_iload hx hb dX6_told_120 (lv_at hl 0 rfl) ?_
                refine ki_iald (F := F_4 17) hx hb hK hP 13 12 rfl rfl (by omega) (by omega) (by decide) dX6_told_122 ?_
                have hbd_70 := hI6.hB.2 17 (F_4 12 ((5 * ev) + kv))
                refine mk_calli (As := [.int (iz (F_4 17 (F_4 12 ((5 * ev) + kv))))]) (rest := []) ⟨hx, hb, hml, hown, hts⟩ (k_hasPage2 l dC dI mo ma cs I_3 F_4 (F_4 17 (F_4 12 ((5 * ev) + kv))) H.size hI6.hB hI6.hc hI6.hln (by omega) (by omega)) (cwV 1 hts (kx_gV kq_08_mgather_9 kq_08_mgather_10 kq_08_mgather_11 kq_04_msmall_6 kq_08_mgather_12 rfl) rfl rfl rfl (by decide +kernel) ⟨Nat.le_of_ble_eq_true rfl, Nat.le_of_ble_eq_true rfl⟩) hP hD hK hG hZ hS hA rfl hl.1 rfl (Nat.le_of_ble_eq_true rfl) dX6_told_123 ⟨Nat.le_of_ble_eq_true rfl, Nat.le_of_ble_eq_true rfl⟩ (fun z_71 I_73 F_74 H locs hq_72 hP hD hS => ?_)
                try dsimp only at hq_72
                obtain ⟨rfl, rfl, hq_72⟩ := hq_72
                rcases hq_72 with ⟨rfl, hq_72⟩ | ⟨rfl, hq_72⟩
                · skip
                  refine ki_if_ne (tgt := 173) hx hb dX6_told_126 (by decide) (by omega) (by omega) (fun c_75 => ?_) (fun c_75 => ?_)
                  · skip
                    refine lv_iinc (v := iz (kv + 1)) (lv' := [(8, .int (iz (kv + 1))), (9, .int (iz (F_4 12 ((5 * ev) + kv)))), (7, .int (iz ev)), (6, .int (iz mw)), (5, .int (iz aw)), (4, .int (iz kw)), (3, .int (iz nw)), (0, .ref mo), (1, .int (iz p0)), (2, .int (iz p1))]) hx hb dX6_told_173 hl (k := 1) rfl (iz_add kv 1) (by decide) rfl (fun ls hl => ?_)
                    refine lv_goto (tgt := 89) hx hb dX6_told_176 (by decide) ?_
                    exact ih89 nw kw aw mw (kv + 1) ⟨by omega, by omega, by omega, by omega, by omega, (by rw [show (kv + 1).toNat = kv.toNat + 1 by omega, (wr_s_app (I_3 1) (F_4 17) (wr_pg F_4) (wr_se F_4) ev kv.toNat 0), show (0 : Int) + ((kv.toNat : Nat) : Int) = kv by omega, wr_b_f (show ¬ wr_np (I_3 1) (F_4 17) (wr_pg F_4) (F_4 17 (wr_se F_4 ev kv)) from hq_72)]; rw [if_neg (by decide), List.append_nil]; exact hT2 ())⟩ (by omega) _ _ hP hD hS ls (lv_sub hl [0, 2, 3, 4, 5, 6, 7, 8, 9] rfl)
                  · omega
                · skip
                  refine ki_if_ne (tgt := 173) hx hb dX6_told_126 (by decide) (by omega) (by omega) (fun c_76 => ?_) (fun c_76 => ?_)
                  · omega
                  · skip
                    refine lv_iload_n hx hb dX6_told_129 rfl (lv_at hl 6 rfl) ?_
                    refine lv_iload_n hx hb dX6_told_130 rfl (lv_at hl 8 rfl) ?_
                    refine ki_icmp_ne (tgt := 138) hx hb dX6_told_131 (by decide) (by omega) (by omega) (by omega) (by omega) (fun c_77 => ?_) (fun c_77 => ?_)
                    · skip
                      refine lv_iload hx hb dX6_told_138 (lv_at hl 5 rfl) ?_
                      refine lv_istore (lv' := [(4, .int (iz kw)), (9, .int (iz (F_4 12 ((5 * ev) + kv)))), (8, .int (iz kv)), (7, .int (iz ev)), (6, .int (iz mw)), (5, .int (iz aw)), (3, .int (iz nw)), (0, .ref mo), (1, .int (iz p0)), (2, .int (iz p1))]) hx hb dX6_told_140 hl (by decide) rfl (fun ls hl => ?_)
                      refine lv_iload_n hx hb dX6_told_142 rfl (lv_at hl 6 rfl) ?_
                      refine lv_iload_n hx hb dX6_told_143 rfl (lv_at hl 8 rfl) ?_
                      refine ki_icmp_ne (tgt := 152) hx hb dX6_told_144 (by decide) (by omega) (by omega) (by omega) (by omega) (fun c_78 => ?_) (fun c_78 => ?_)
                      · skip
                        refine lv_iload hx hb dX6_told_152 (lv_at hl 5 rfl) ?_
                        refine lv_istore (lv' := [(5, .int (iz aw)), (4, .int (iz kw)), (9, .int (iz (F_4 12 ((5 * ev) + kv)))), (8, .int (iz kv)), (7, .int (iz ev)), (6, .int (iz mw)), (3, .int (iz nw)), (0, .ref mo), (1, .int (iz p0)), (2, .int (iz p1))]) hx hb dX6_told_154 hl (by decide) rfl (fun ls hl => ?_)
                        refine lv_iload_n hx hb dX6_told_156 rfl (lv_at hl 6 rfl) ?_
                        refine lv_iload_n hx hb dX6_told_157 rfl (lv_at hl 8 rfl) ?_
                        refine ki_icmp_ne (tgt := 166) hx hb dX6_told_158 (by decide) (by omega) (by omega) (by omega) (by omega) (fun c_79 => ?_) (fun c_79 => ?_)
                        · skip
                          refine lv_iload hx hb dX6_told_166 (lv_at hl 5 rfl) ?_
                          refine lv_istore (lv' := [(6, .int (iz mw)), (5, .int (iz aw)), (4, .int (iz kw)), (9, .int (iz (F_4 12 ((5 * ev) + kv)))), (8, .int (iz kv)), (7, .int (iz ev)), (3, .int (iz nw)), (0, .ref mo), (1, .int (iz p0)), (2, .int (iz p1))]) hx hb dX6_told_168 hl (by decide) rfl (fun ls hl => ?_)
                          refine lv_iinc (v := iz (nw + 1)) (lv' := [(3, .int (iz (nw + 1))), (6, .int (iz mw)), (5, .int (iz aw)), (4, .int (iz kw)), (9, .int (iz (F_4 12 ((5 * ev) + kv)))), (8, .int (iz kv)), (7, .int (iz ev)), (0, .ref mo), (1, .int (iz p0)), (2, .int (iz p1))]) hx hb dX6_told_170 hl (k := 6) rfl (iz_add nw 1) (by decide) rfl (fun ls hl => ?_)
                          refine lv_iinc (v := iz (kv + 1)) (lv' := [(8, .int (iz (kv + 1))), (3, .int (iz (nw + 1))), (6, .int (iz mw)), (5, .int (iz aw)), (4, .int (iz kw)), (9, .int (iz (F_4 12 ((5 * ev) + kv)))), (7, .int (iz ev)), (0, .ref mo), (1, .int (iz p0)), (2, .int (iz p1))]) hx hb dX6_told_173 hl (k := 5) rfl (iz_add kv 1) (by decide) rfl (fun ls hl => ?_)
                          refine lv_goto (tgt := 89) hx hb dX6_told_176 (by decide) ?_
                          exact ih89 (nw + 1) kw aw mw (kv + 1) ⟨by omega, by omega, by omega, by omega, by omega, (by rw [show (kv + 1).toNat = kv.toNat + 1 by omega, (wr_s_app (I_3 1) (F_4 17) (wr_pg F_4) (wr_se F_4) ev kv.toNat 0), show (0 : Int) + ((kv.toNat : Nat) : Int) = kv by omega, wr_b_t (show wr_np (I_3 1) (F_4 17) (wr_pg F_4) (F_4 17 (wr_se F_4 ev kv)) from hq_72)]; rw [if_pos rfl, ← List.append_assoc, ← List.append_assoc, List.append_assoc (wr_R _ _ _)]; exact wr_T_miss _ (hT2 ()) (by omega))⟩ (by omega) _ _ hP hD hS ls (lv_sub hl [0, 6, 2, 3, 4, 1, 7, 8, 9] rfl)
                        · omega
                      · omega
                    · skip
                      refine lv_iconst (v := iz 2) hx hb dX6_told_134 (by decide) ?_
                      refine lv_goto (tgt := 140) hx hb dX6_told_135 (by decide) ?_
                      refine lv_istore (lv' := [(4, .int (iz 2)), (9, .int (iz (F_4 12 ((5 * ev) + kv)))), (8, .int (iz kv)), (7, .int (iz ev)), (6, .int (iz mw)), (5, .int (iz aw)), (3, .int (iz nw)), (0, .ref mo), (1, .int (iz p0)), (2, .int (iz p1))]) hx hb dX6_told_140 hl (by decide) rfl (fun ls hl => ?_)
                      refine lv_iload_n hx hb dX6_told_142 rfl (lv_at hl 6 rfl) ?_
                      refine lv_iload_n hx hb dX6_told_143 rfl (lv_at hl 8 rfl) ?_
                      refine ki_icmp_ne (tgt := 152) hx hb dX6_told_144 (by decide) (by omega) (by omega) (by omega) (by omega) (fun c_80 => ?_) (fun c_80 => ?_)
                      · omega
                      · skip
                        refine lv_iload hx hb dX6_told_147 (lv_at hl 3 rfl) ?_
                        refine lv_goto (tgt := 154) hx hb dX6_told_149 (by decide) ?_
                        refine lv_istore (lv' := [(5, .int (iz ev)), (4, .int (iz 2)), (9, .int (iz (F_4 12 ((5 * ev) + kv)))), (8, .int (iz kv)), (7, .int (iz ev)), (6, .int (iz mw)), (3, .int (iz nw)), (0, .ref mo), (1, .int (iz p0)), (2, .int (iz p1))]) hx hb dX6_told_154 hl (by decide) rfl (fun ls hl => ?_)
                        refine lv_iload_n hx hb dX6_told_156 rfl (lv_at hl 6 rfl) ?_
                        refine lv_iload_n hx hb dX6_told_157 rfl (lv_at hl 8 rfl) ?_
                        refine ki_icmp_ne (tgt := 166) hx hb dX6_told_158 (by decide) (by omega) (by omega) (by omega) (by omega) (fun c_81 => ?_) (fun c_81 => ?_)
                        · omega
                        · skip
                          refine lv_iload hx hb dX6_told_161 (lv_at hl 2 rfl) ?_
                          refine lv_goto (tgt := 168) hx hb dX6_told_163 (by decide) ?_
                          refine lv_istore (lv' := [(6, .int (iz (F_4 12 ((5 * ev) + kv)))), (5, .int (iz ev)), (4, .int (iz 2)), (9, .int (iz (F_4 12 ((5 * ev) + kv)))), (8, .int (iz kv)), (7, .int (iz ev)), (3, .int (iz nw)), (0, .ref mo), (1, .int (iz p0)), (2, .int (iz p1))]) hx hb dX6_told_168 hl (by decide) rfl (fun ls hl => ?_)
                          refine lv_iinc (v := iz (nw + 1)) (lv' := [(3, .int (iz (nw + 1))), (6, .int (iz (F_4 12 ((5 * ev) + kv)))), (5, .int (iz ev)), (4, .int (iz 2)), (9, .int (iz (F_4 12 ((5 * ev) + kv)))), (8, .int (iz kv)), (7, .int (iz ev)), (0, .ref mo), (1, .int (iz p0)), (2, .int (iz p1))]) hx hb dX6_told_170 hl (k := 6) rfl (iz_add nw 1) (by decide) rfl (fun ls hl => ?_)
                          refine lv_iinc (v := iz (kv + 1)) (lv' := [(8, .int (iz (kv + 1))), (3, .int (iz (nw + 1))), (6, .int (iz (F_4 12 ((5 * ev) + kv)))), (5, .int (iz ev)), (4, .int (iz 2)), (9, .int (iz (F_4 12 ((5 * ev) + kv)))), (7, .int (iz ev)), (0, .ref mo), (1, .int (iz p0)), (2, .int (iz p1))]) hx hb dX6_told_173 hl (k := 5) rfl (iz_add kv 1) (by decide) rfl (fun ls hl => ?_)
                          refine lv_goto (tgt := 89) hx hb dX6_told_176 (by decide) ?_
                          exact ih89 (nw + 1) 2 ev (F_4 12 ((5 * ev) + kv)) (kv + 1) ⟨by omega, by omega, by omega, by omega, by omega, (by rw [show (kv + 1).toNat = kv.toNat + 1 by omega, (wr_s_app (I_3 1) (F_4 17) (wr_pg F_4) (wr_se F_4) ev kv.toNat 0), show (0 : Int) + ((kv.toNat : Nat) : Int) = kv by omega, wr_b_t (show wr_np (I_3 1) (F_4 17) (wr_pg F_4) (F_4 17 (wr_se F_4 ev kv)) from hq_72)]; rw [if_pos rfl, ← List.append_assoc, ← List.append_assoc, List.append_assoc (wr_R _ _ _)]; exact wr_T_hit (hT2 ()) (by omega))⟩ (by omega) _ _ hP hD hS ls (lv_sub hl [0, 6, 2, 3, 4, 1, 7, 8, 9] rfl)
          exact lp89 _ nv kd av mv 0 ⟨by omega, by omega, by omega, by omega, by omega, by show wr_T p0 (_ ++ (_ ++ [])) 0 0 0 _ _ _ _; rw [List.append_nil]; exact (by rw [show wr_o (F_4 11) ev = [] from if_neg (by omega)]; exact (by rw [List.append_nil]; exact hT ()))⟩ (Nat.lt_succ_self _) _ _ hP hD hS ls (lv_sub hl [0, 1, 2, 3, 4, 5, 6, 7, 8] rfl)
        · skip
          refine lv_iload_n hx hb dX6_told_37 rfl (lv_at hl 4 rfl) ?_
          refine lv_iload_n hx hb dX6_told_38 rfl (lv_at hl 6 rfl) ?_
          refine ki_icmp_ne (tgt := 46) hx hb dX6_told_39 (by decide) (by omega) (by omega) (by omega) (by omega) (fun c_82 => ?_) (fun c_82 => ?_)
          · skip
            refine lv_iload hx hb dX6_told_46 (lv_at hl 3 rfl) ?_
            refine lv_istore (lv' := [(4, .int (iz kd)), (7, .int (iz ev)), (6, .int (iz mv)), (5, .int (iz av)), (3, .int (iz nv)), (0, .ref mo), (1, .int (iz p0)), (2, .int (iz p1))]) hx hb dX6_told_48 hl (by decide) rfl (fun ls hl => ?_)
            refine lv_iload_n hx hb dX6_told_50 rfl (lv_at hl 4 rfl) ?_
            refine lv_iload_n hx hb dX6_told_51 rfl (lv_at hl 6 rfl) ?_
            refine ki_icmp_ne (tgt := 60) hx hb dX6_told_52 (by decide) (by omega) (by omega) (by omega) (by omega) (fun c_83 => ?_) (fun c_83 => ?_)
            · skip
              refine lv_iload hx hb dX6_told_60 (lv_at hl 3 rfl) ?_
              refine lv_istore (lv' := [(5, .int (iz av)), (4, .int (iz kd)), (7, .int (iz ev)), (6, .int (iz mv)), (3, .int (iz nv)), (0, .ref mo), (1, .int (iz p0)), (2, .int (iz p1))]) hx hb dX6_told_62 hl (by decide) rfl (fun ls hl => ?_)
              refine lv_iload_n hx hb dX6_told_64 rfl (lv_at hl 4 rfl) ?_
              refine lv_iload_n hx hb dX6_told_65 rfl (lv_at hl 6 rfl) ?_
              refine ki_icmp_ne (tgt := 79) hx hb dX6_told_66 (by decide) (by omega) (by omega) (by omega) (by omega) (fun c_84 => ?_) (fun c_84 => ?_)
              · skip
                refine lv_iload hx hb dX6_told_79 (lv_at hl 3 rfl) ?_
                refine lv_istore (lv' := [(6, .int (iz mv)), (5, .int (iz av)), (4, .int (iz kd)), (7, .int (iz ev)), (3, .int (iz nv)), (0, .ref mo), (1, .int (iz p0)), (2, .int (iz p1))]) hx hb dX6_told_81 hl (by decide) rfl (fun ls hl => ?_)
                refine lv_iinc (v := iz (nv + 1)) (lv' := [(3, .int (iz (nv + 1))), (6, .int (iz mv)), (5, .int (iz av)), (4, .int (iz kd)), (7, .int (iz ev)), (0, .ref mo), (1, .int (iz p0)), (2, .int (iz p1))]) hx hb dX6_told_83 hl (k := 4) rfl (iz_add nv 1) (by decide) rfl (fun ls hl => ?_)
                refine lv_iconst (v := iz 0) hx hb dX6_told_86 (by decide) ?_
                refine lv_istore (lv' := [(8, .int (iz 0)), (3, .int (iz (nv + 1))), (6, .int (iz mv)), (5, .int (iz av)), (4, .int (iz kd)), (7, .int (iz ev)), (0, .ref mo), (1, .int (iz p0)), (2, .int (iz p1))]) hx hb dX6_told_87 hl (by decide) rfl (fun ls hl => ?_)
                have lp89 : ∀ (n : Nat) (nw kw aw mw kv : Int), ((0 ≤ nw ∧ nw ≤ 7 * ev + 1 + kv) ∧ (0 ≤ kw ∧ kw ≤ 3) ∧ (-2147483648 ≤ aw ∧ aw < 2147483648) ∧ (-2147483648 ≤ mw ∧ mw < 2147483648) ∧ (0 ≤ kv ∧ kv ≤ F_4 13 ev) ∧ (wr_T p0 (wr_R I_3 F_4 ev.toNat ++ (wr_o (F_4 11) ev ++ wr_s (I_3 1) (F_4 17) (wr_pg F_4) (wr_se F_4) ev (kv).toNat 0)) 0 0 0 nw kw aw mw)) → (F_4 13 ev - kv).toNat < n → ∀ (H : Heap) (locs : List Loc), va_P (dC, dI) kxCl (mW mo ma cs I_3 F_4) H → va_D A (mW mo ma cs I_3 F_4) → va_S A s.heap H locs → ∀ ls : Array Slot, lv_has ls 10 [(8, .int (iz kv)), (3, .int (iz nw)), (6, .int (iz mw)), (5, .int (iz aw)), (4, .int (iz kw)), (7, .int (iz ev)), (0, .ref mo), (1, .int (iz p0)), (2, .int (iz p1))] → W p l e (headSpec [.code yX6_told cX6_told 10 (some .int)] ({ frames := 5, cells := 0, slots := 0, locals := 120 })).room s m ([.ref mo, .int (iz p0), .int (iz p1)] : List Value).toArray below meth c H locs 0 0 QQ (F0 m 89 ls []) := by
                  intro n
                  induction n with
                  | zero => intro nw kw aw mw kv hinv hm; exact absurd hm (Nat.not_lt_zero _)
                  | succ n ih89 =>
                    intro nw kw aw mw kv hinv hm H locs hP hD hS ls hl
                    obtain ⟨hnw, hkw, haw, hmw, hkv, hT2⟩ := hinv
                    replace hT2 := fun (_ : Unit) => hT2
                    refine lv_iload hx hb dX6_told_89 (lv_at hl 0 rfl) ?_
                    refine lv_aload_n hx hb dX6_told_91 rfl (lv_at hl 6 rfl) ?_
                    refine va_get (D := (dC, dI)) (ci := 6) (v := .ref (ma 13)) (C := RX6) (T := TX6) (N := 44) hx hb hts kt_X6 hown hK hP 0 rfl rfl 13 (by decide) (kx_word hG kq_04_msmall_38 rfl) (fun _ h9 => h9) rfl dX6_told_92 ?_
                    refine lv_iload hx hb dX6_told_95 (lv_at hl 5 rfl) ?_
                    refine ki_iald (F := F_4 13) hx hb hK hP 12 11 rfl rfl (by omega) (by omega) (by decide) dX6_told_97 ?_
                    have hbd_85 := hI6.hB.2 13 ev
                    refine ki_icmp_ge (tgt := 179) hx hb dX6_told_98 (by decide) (by omega) (by omega) (by omega) (by omega) (fun c_86 => ?_) (fun c_86 => ?_)
                    · skip
                      refine lv_aload_n hx hb dX6_told_179 rfl (lv_at hl 6 rfl) ?_
                      refine lv_iload hx hb dX6_told_180 (lv_at hl 5 rfl) ?_
                      refine mk_calli (As := [.int (iz ev)]) (rest := []) ⟨hx, hb, hml, hown, hts⟩ (k_isBare2 l dC dI mo ma cs I_3 F_4 ev H.size hI6.hB hI6.hc hI6.hln hI6.hlv (by omega)) (cwV 1 hts (kx_gV kq_11_mask_4 kq_11_mask_5 kq_11_mask_6 kq_04_msmall_6 kq_11_mask_7 rfl) rfl rfl rfl (by decide +kernel) ⟨Nat.le_of_ble_eq_true rfl, Nat.le_of_ble_eq_true rfl⟩) hP hD hK hG hZ hS hA rfl hl.1 rfl (Nat.le_of_ble_eq_true rfl) dX6_told_182 ⟨Nat.le_of_ble_eq_true rfl, Nat.le_of_ble_eq_true rfl⟩ (fun z_87 I_89 F_90 H locs hq_88 hP hD hS => ?_)
                      try dsimp only at hq_88
                      obtain ⟨rfl, rfl, hq_88⟩ := hq_88
                      rcases hq_88 with ⟨rfl, hq_88⟩ | ⟨rfl, hq_88⟩
                      · skip
                        refine ki_if_eq (tgt := 218) hx hb dX6_told_185 (by decide) (by omega) (by omega) (fun c_91 => ?_) (fun c_91 => ?_)
                        · omega
                        · skip
                          refine lv_iload_n hx hb dX6_told_188 rfl (lv_at hl 1 rfl) ?_
                          refine lv_iload_n hx hb dX6_told_189 rfl (lv_at hl 7 rfl) ?_
                          refine ki_icmp_ne (tgt := 197) hx hb dX6_told_190 (by decide) (by omega) (by omega) (by omega) (by omega) (fun c_92 => ?_) (fun c_92 => ?_)
                          · skip
                            refine lv_iload hx hb dX6_told_197 (lv_at hl 4 rfl) ?_
                            refine lv_istore (lv' := [(4, .int (iz kw)), (8, .int (iz kv)), (3, .int (iz nw)), (6, .int (iz mw)), (5, .int (iz aw)), (7, .int (iz ev)), (0, .ref mo), (1, .int (iz p0)), (2, .int (iz p1))]) hx hb dX6_told_199 hl (by decide) rfl (fun ls hl => ?_)
                            refine lv_iload_n hx hb dX6_told_201 rfl (lv_at hl 2 rfl) ?_
                            refine lv_iload_n hx hb dX6_told_202 rfl (lv_at hl 7 rfl) ?_
                            refine ki_icmp_ne (tgt := 211) hx hb dX6_told_203 (by decide) (by omega) (by omega) (by omega) (by omega) (fun c_93 => ?_) (fun c_93 => ?_)
                            · skip
                              refine lv_iload hx hb dX6_told_211 (lv_at hl 4 rfl) ?_
                              refine lv_istore (lv' := [(5, .int (iz aw)), (4, .int (iz kw)), (8, .int (iz kv)), (3, .int (iz nw)), (6, .int (iz mw)), (7, .int (iz ev)), (0, .ref mo), (1, .int (iz p0)), (2, .int (iz p1))]) hx hb dX6_told_213 hl (by decide) rfl (fun ls hl => ?_)
                              refine lv_iinc (v := iz (nw + 1)) (lv' := [(3, .int (iz (nw + 1))), (5, .int (iz aw)), (4, .int (iz kw)), (8, .int (iz kv)), (6, .int (iz mw)), (7, .int (iz ev)), (0, .ref mo), (1, .int (iz p0)), (2, .int (iz p1))]) hx hb dX6_told_215 hl (k := 3) rfl (iz_add nw 1) (by decide) rfl (fun ls hl => ?_)
                              refine lv_iinc (v := iz (ev + 1)) (lv' := [(7, .int (iz (ev + 1))), (3, .int (iz (nw + 1))), (5, .int (iz aw)), (4, .int (iz kw)), (8, .int (iz kv)), (6, .int (iz mw)), (0, .ref mo), (1, .int (iz p0)), (2, .int (iz p1))]) hx hb dX6_told_218 hl (k := 5) rfl (iz_add ev 1) (by decide) rfl (fun ls hl => ?_)
                              refine lv_goto (tgt := 18) hx hb dX6_told_221 (by decide) ?_
                              exact ih18 (nw + 1) kw aw mw (ev + 1) ⟨by omega, by omega, by omega, by omega, by omega, (by rw [(show wr_R I_3 F_4 (ev + 1).toNat = (wr_R I_3 F_4 ev.toNat ++ (wr_o (F_4 11) ev ++ wr_s (I_3 1) (F_4 17) (wr_pg F_4) (wr_se F_4) ev (kv).toNat 0)) ++ _ from (by unfold wr_R; rw [show (ev + 1).toNat = ev.toNat + 1 by omega, wr_a_app, show (0 : Int) + ((ev.toNat : Nat) : Int) = ev by omega]; unfold wr_e; rw [show F_4 13 ev = kv by omega, ← List.append_assoc (wr_o (F_4 11) ev), ← List.append_assoc])), wr_b_t hq_88, if_pos rfl]; exact wr_T_miss _ (hT2 ()) (by omega))⟩ (by omega) _ _ hP hD hS ls (lv_sub hl [0, 5, 2, 3, 1, 6, 7, 8] rfl)
                            · omega
                          · skip
                            refine lv_iconst (v := iz 3) hx hb dX6_told_193 (by decide) ?_
                            refine lv_goto (tgt := 199) hx hb dX6_told_194 (by decide) ?_
                            refine lv_istore (lv' := [(4, .int (iz 3)), (8, .int (iz kv)), (3, .int (iz nw)), (6, .int (iz mw)), (5, .int (iz aw)), (7, .int (iz ev)), (0, .ref mo), (1, .int (iz p0)), (2, .int (iz p1))]) hx hb dX6_told_199 hl (by decide) rfl (fun ls hl => ?_)
                            refine lv_iload_n hx hb dX6_told_201 rfl (lv_at hl 2 rfl) ?_
                            refine lv_iload_n hx hb dX6_told_202 rfl (lv_at hl 7 rfl) ?_
                            refine ki_icmp_ne (tgt := 211) hx hb dX6_told_203 (by decide) (by omega) (by omega) (by omega) (by omega) (fun c_94 => ?_) (fun c_94 => ?_)
                            · omega
                            · skip
                              refine lv_iload hx hb dX6_told_206 (lv_at hl 5 rfl) ?_
                              refine lv_goto (tgt := 213) hx hb dX6_told_208 (by decide) ?_
                              refine lv_istore (lv' := [(5, .int (iz ev)), (4, .int (iz 3)), (8, .int (iz kv)), (3, .int (iz nw)), (6, .int (iz mw)), (7, .int (iz ev)), (0, .ref mo), (1, .int (iz p0)), (2, .int (iz p1))]) hx hb dX6_told_213 hl (by decide) rfl (fun ls hl => ?_)
                              refine lv_iinc (v := iz (nw + 1)) (lv' := [(3, .int (iz (nw + 1))), (5, .int (iz ev)), (4, .int (iz 3)), (8, .int (iz kv)), (6, .int (iz mw)), (7, .int (iz ev)), (0, .ref mo), (1, .int (iz p0)), (2, .int (iz p1))]) hx hb dX6_told_215 hl (k := 3) rfl (iz_add nw 1) (by decide) rfl (fun ls hl => ?_)
                              have hat9 := wr_T_at (hT2 ()) (by omega)
                              refine lv_iinc (v := iz (ev + 1)) (lv' := [(7, .int (iz (ev + 1))), (3, .int (iz (nw + 1))), (5, .int (iz ev)), (4, .int (iz 3)), (8, .int (iz kv)), (6, .int (iz mw)), (0, .ref mo), (1, .int (iz p0)), (2, .int (iz p1))]) hx hb dX6_told_218 hl (k := 5) rfl (iz_add ev 1) (by decide) rfl (fun ls hl => ?_)
                              refine lv_goto (tgt := 18) hx hb dX6_told_221 (by decide) ?_
                              exact ih18 (nw + 1) 3 ev mw (ev + 1) ⟨by omega, by omega, by omega, by omega, by omega, (by rw [(show wr_R I_3 F_4 (ev + 1).toNat = (wr_R I_3 F_4 ev.toNat ++ (wr_o (F_4 11) ev ++ wr_s (I_3 1) (F_4 17) (wr_pg F_4) (wr_se F_4) ev (kv).toNat 0)) ++ _ from (by unfold wr_R; rw [show (ev + 1).toNat = ev.toNat + 1 by omega, wr_a_app, show (0 : Int) + ((ev.toNat : Nat) : Int) = ev by omega]; unfold wr_e; rw [show F_4 13 ev = kv by omega, ← List.append_assoc (wr_o (F_4 11) ev), ← List.append_assoc])), wr_b_t hq_88, if_pos rfl]; exact (by rw [hat9.2.2]; exact wr_T_hit (hT2 ()) (by omega)))⟩ (by omega) _ _ hP hD hS ls (lv_sub hl [0, 5, 2, 3, 1, 6, 7, 8] rfl)
                      · skip
                        refine ki_if_eq (tgt := 218) hx hb dX6_told_185 (by decide) (by omega) (by omega) (fun c_95 => ?_) (fun c_95 => ?_)
                        · skip
                          refine lv_iinc (v := iz (ev + 1)) (lv' := [(7, .int (iz (ev + 1))), (8, .int (iz kv)), (3, .int (iz nw)), (6, .int (iz mw)), (5, .int (iz aw)), (4, .int (iz kw)), (0, .ref mo), (1, .int (iz p0)), (2, .int (iz p1))]) hx hb dX6_told_218 hl (k := 5) rfl (iz_add ev 1) (by decide) rfl (fun ls hl => ?_)
                          refine lv_goto (tgt := 18) hx hb dX6_told_221 (by decide) ?_
                          exact ih18 nw kw aw mw (ev + 1) ⟨by omega, by omega, by omega, by omega, by omega, (by rw [(show wr_R I_3 F_4 (ev + 1).toNat = (wr_R I_3 F_4 ev.toNat ++ (wr_o (F_4 11) ev ++ wr_s (I_3 1) (F_4 17) (wr_pg F_4) (wr_se F_4) ev (kv).toNat 0)) ++ _ from (by unfold wr_R; rw [show (ev + 1).toNat = ev.toNat + 1 by omega, wr_a_app, show (0 : Int) + ((ev.toNat : Nat) : Int) = ev by omega]; unfold wr_e; rw [show F_4 13 ev = kv by omega, ← List.append_assoc (wr_o (F_4 11) ev), ← List.append_assoc])), wr_b_f hq_88, if_neg (by decide), List.append_nil]; exact hT2 ())⟩ (by omega) _ _ hP hD hS ls (lv_sub hl [0, 3, 4, 5, 2, 6, 7, 8] rfl)
                        · omega
                    · skip
                      have hse9 := hI6.hse ev kv (by omega) (by omega) (by omega) (by omega)
                      refine lv_aload_n hx hb dX6_told_101 rfl (lv_at hl 6 rfl) ?_
                      refine va_get (D := (dC, dI)) (ci := 6) (v := .ref (ma 12)) (C := RX6) (T := TX6) (N := 44) hx hb hts kt_X6 hown hK hP 0 rfl rfl 12 (by decide) (kx_word hG kq_04_msmall_39 rfl) (fun _ h9 => h9) rfl dX6_told_102 ?_
                      refine lv_iconst (v := iz 5) hx hb dX6_told_105 (by decide) ?_
                      refine lv_iload hx hb dX6_told_106 (lv_at hl 5 rfl) ?_
                      refine ki_imul hx hb dX6_told_108 ?_
                      refine lv_iload hx hb dX6_told_109 (lv_at hl 0 rfl) ?_
                      refine ki_iadd hx hb dX6_told_111 ?_
                      refine ki_iald (F := F_4 12) hx hb hK hP 11 10 rfl rfl (by omega) (by omega) (by decide) dX6_told_112 ?_
                      have hbd_96 := hI6.hB.2 12 ((5 * ev) + kv)
                      refine lv_istore (lv' := [(9, .int (iz (F_4 12 ((5 * ev) + kv)))), (8, .int (iz kv)), (3, .int (iz nw)), (6, .int (iz mw)), (5, .int (iz aw)), (4, .int (iz kw)), (7, .int (iz ev)), (0, .ref mo), (1, .int (iz p0)), (2, .int (iz p1))]) hx hb dX6_told_113 hl (by decide) rfl (fun ls hl => ?_)
                      refine lv_aload_n hx hb dX6_told_115 rfl (lv_at hl 7 rfl) ?_
                      refine lv_aload_n hx hb dX6_told_116 rfl (lv_at hl 7 rfl) ?_
                      refine va_get (D := (dC, dI)) (ci := 6) (v := .ref (ma 17)) (C := RX6) (T := TX6) (N := 44) hx hb hts kt_X6 hown hK hP 0 rfl rfl 17 (by decide) (kx_word hG kq_06_mway_15 rfl) (fun _ h9 => h9) rfl dX6_told_117 ?_
                      have hsm9 := hsmL (F_4 12 ((5 * ev) + kv)) (by omega) (by omega)
                      refine lv_iload hx hb dX6_told_120 (lv_at hl 0 rfl) ?_
                      refine ki_iald (F := F_4 17) hx hb hK hP 13 12 rfl rfl (by omega) (by omega) (by decide) dX6_told_122 ?_
                      have hbd_97 := hI6.hB.2 17 (F_4 12 ((5 * ev) + kv))
                      refine mk_calli (As := [.int (iz (F_4 17 (F_4 12 ((5 * ev) + kv))))]) (rest := []) ⟨hx, hb, hml, hown, hts⟩ (k_hasPage2 l dC dI mo ma cs I_3 F_4 (F_4 17 (F_4 12 ((5 * ev) + kv))) H.size hI6.hB hI6.hc hI6.hln (by omega) (by omega)) (cwV 1 hts (kx_gV kq_08_mgather_9 kq_08_mgather_10 kq_08_mgather_11 kq_04_msmall_6 kq_08_mgather_12 rfl) rfl rfl rfl (by decide +kernel) ⟨Nat.le_of_ble_eq_true rfl, Nat.le_of_ble_eq_true rfl⟩) hP hD hK hG hZ hS hA rfl hl.1 rfl (Nat.le_of_ble_eq_true rfl) dX6_told_123 ⟨Nat.le_of_ble_eq_true rfl, Nat.le_of_ble_eq_true rfl⟩ (fun z_98 I_100 F_101 H locs hq_99 hP hD hS => ?_)
                      try dsimp only at hq_99
                      obtain ⟨rfl, rfl, hq_99⟩ := hq_99
                      rcases hq_99 with ⟨rfl, hq_99⟩ | ⟨rfl, hq_99⟩
                      · skip
                        refine ki_if_ne (tgt := 173) hx hb dX6_told_126 (by decide) (by omega) (by omega) (fun c_102 => ?_) (fun c_102 => ?_)
                        · skip
                          refine lv_iinc (v := iz (kv + 1)) (lv' := [(8, .int (iz (kv + 1))), (9, .int (iz (F_4 12 ((5 * ev) + kv)))), (3, .int (iz nw)), (6, .int (iz mw)), (5, .int (iz aw)), (4, .int (iz kw)), (7, .int (iz ev)), (0, .ref mo), (1, .int (iz p0)), (2, .int (iz p1))]) hx hb dX6_told_173 hl (k := 1) rfl (iz_add kv 1) (by decide) rfl (fun ls hl => ?_)
                          refine lv_goto (tgt := 89) hx hb dX6_told_176 (by decide) ?_
                          exact ih89 nw kw aw mw (kv + 1) ⟨by omega, by omega, by omega, by omega, by omega, (by rw [show (kv + 1).toNat = kv.toNat + 1 by omega, (wr_s_app (I_3 1) (F_4 17) (wr_pg F_4) (wr_se F_4) ev kv.toNat 0), show (0 : Int) + ((kv.toNat : Nat) : Int) = kv by omega, wr_b_f (show ¬ wr_np (I_3 1) (F_4 17) (wr_pg F_4) (F_4 17 (wr_se F_4 ev kv)) from hq_99)]; rw [if_neg (by decide), List.append_nil]; exact hT2 ())⟩ (by omega) _ _ hP hD hS ls (lv_sub hl [0, 2, 3, 4, 5, 6, 7, 8, 9] rfl)
                        · omega
                      · skip
                        refine ki_if_ne (tgt := 173) hx hb dX6_told_126 (by decide) (by omega) (by omega) (fun c_103 => ?_) (fun c_103 => ?_)
                        · omega
                        · skip
                          refine lv_iload_n hx hb dX6_told_129 rfl (lv_at hl 2 rfl) ?_
                          refine lv_iload_n hx hb dX6_told_130 rfl (lv_at hl 8 rfl) ?_
                          refine ki_icmp_ne (tgt := 138) hx hb dX6_told_131 (by decide) (by omega) (by omega) (by omega) (by omega) (fun c_104 => ?_) (fun c_104 => ?_)
                          · skip
                            refine lv_iload hx hb dX6_told_138 (lv_at hl 5 rfl) ?_
                            refine lv_istore (lv' := [(4, .int (iz kw)), (9, .int (iz (F_4 12 ((5 * ev) + kv)))), (8, .int (iz kv)), (3, .int (iz nw)), (6, .int (iz mw)), (5, .int (iz aw)), (7, .int (iz ev)), (0, .ref mo), (1, .int (iz p0)), (2, .int (iz p1))]) hx hb dX6_told_140 hl (by decide) rfl (fun ls hl => ?_)
                            refine lv_iload_n hx hb dX6_told_142 rfl (lv_at hl 3 rfl) ?_
                            refine lv_iload_n hx hb dX6_told_143 rfl (lv_at hl 8 rfl) ?_
                            refine ki_icmp_ne (tgt := 152) hx hb dX6_told_144 (by decide) (by omega) (by omega) (by omega) (by omega) (fun c_105 => ?_) (fun c_105 => ?_)
                            · skip
                              refine lv_iload hx hb dX6_told_152 (lv_at hl 5 rfl) ?_
                              refine lv_istore (lv' := [(5, .int (iz aw)), (4, .int (iz kw)), (9, .int (iz (F_4 12 ((5 * ev) + kv)))), (8, .int (iz kv)), (3, .int (iz nw)), (6, .int (iz mw)), (7, .int (iz ev)), (0, .ref mo), (1, .int (iz p0)), (2, .int (iz p1))]) hx hb dX6_told_154 hl (by decide) rfl (fun ls hl => ?_)
                              refine lv_iload_n hx hb dX6_told_156 rfl (lv_at hl 4 rfl) ?_
                              refine lv_iload_n hx hb dX6_told_157 rfl (lv_at hl 8 rfl) ?_
                              refine ki_icmp_ne (tgt := 166) hx hb dX6_told_158 (by decide) (by omega) (by omega) (by omega) (by omega) (fun c_106 => ?_) (fun c_106 => ?_)
                              · skip
                                refine lv_iload hx hb dX6_told_166 (lv_at hl 5 rfl) ?_
                                refine lv_istore (lv' := [(6, .int (iz mw)), (5, .int (iz aw)), (4, .int (iz kw)), (9, .int (iz (F_4 12 ((5 * ev) + kv)))), (8, .int (iz kv)), (3, .int (iz nw)), (7, .int (iz ev)), (0, .ref mo), (1, .int (iz p0)), (2, .int (iz p1))]) hx hb dX6_told_168 hl (by decide) rfl (fun ls hl => ?_)
                                refine lv_iinc (v := iz (nw + 1)) (lv' := [(3, .int (iz (nw + 1))), (6, .int (iz mw)), (5, .int (iz aw)), (4, .int (iz kw)), (9, .int (iz (F_4 12 ((5 * ev) + kv)))), (8, .int (iz kv)), (7, .int (iz ev)), (0, .ref mo), (1, .int (iz p0)), (2, .int (iz p1))]) hx hb dX6_told_170 hl (k := 5) rfl (iz_add nw 1) (by decide) rfl (fun ls hl => ?_)
                                refine lv_iinc (v := iz (kv + 1)) (lv' := [(8, .int (iz (kv + 1))), (3, .int (iz (nw + 1))), (6, .int (iz mw)), (5, .int (iz aw)), (4, .int (iz kw)), (9, .int (iz (F_4 12 ((5 * ev) + kv)))), (7, .int (iz ev)), (0, .ref mo), (1, .int (iz p0)), (2, .int (iz p1))]) hx hb dX6_told_173 hl (k := 5) rfl (iz_add kv 1) (by decide) rfl (fun ls hl => ?_)
                                refine lv_goto (tgt := 89) hx hb dX6_told_176 (by decide) ?_
                                exact ih89 (nw + 1) kw aw mw (kv + 1) ⟨by omega, by omega, by omega, by omega, by omega, (by rw [show (kv + 1).toNat = kv.toNat + 1 by omega, (wr_s_app (I_3 1) (F_4 17) (wr_pg F_4) (wr_se F_4) ev kv.toNat 0), show (0 : Int) + ((kv.toNat : Nat) : Int) = kv by omega, wr_b_t (show wr_np (I_3 1) (F_4 17) (wr_pg F_4) (F_4 17 (wr_se F_4 ev kv)) from hq_99)]; rw [if_pos rfl, ← List.append_assoc, ← List.append_assoc, List.append_assoc (wr_R _ _ _)]; exact wr_T_miss _ (hT2 ()) (by omega))⟩ (by omega) _ _ hP hD hS ls (lv_sub hl [0, 1, 2, 3, 4, 6, 7, 8, 9] rfl)
                              · omega
                            · omega
                          · skip
                            refine lv_iconst (v := iz 2) hx hb dX6_told_134 (by decide) ?_
                            refine lv_goto (tgt := 140) hx hb dX6_told_135 (by decide) ?_
                            refine lv_istore (lv' := [(4, .int (iz 2)), (9, .int (iz (F_4 12 ((5 * ev) + kv)))), (8, .int (iz kv)), (3, .int (iz nw)), (6, .int (iz mw)), (5, .int (iz aw)), (7, .int (iz ev)), (0, .ref mo), (1, .int (iz p0)), (2, .int (iz p1))]) hx hb dX6_told_140 hl (by decide) rfl (fun ls hl => ?_)
                            refine lv_iload_n hx hb dX6_told_142 rfl (lv_at hl 3 rfl) ?_
                            refine lv_iload_n hx hb dX6_told_143 rfl (lv_at hl 8 rfl) ?_
                            refine ki_icmp_ne (tgt := 152) hx hb dX6_told_144 (by decide) (by omega) (by omega) (by omega) (by omega) (fun c_107 => ?_) (fun c_107 => ?_)
                            · omega
                            · skip
                              refine lv_iload hx hb dX6_told_147 (lv_at hl 6 rfl) ?_
                              refine lv_goto (tgt := 154) hx hb dX6_told_149 (by decide) ?_
                              refine lv_istore (lv' := [(5, .int (iz ev)), (4, .int (iz 2)), (9, .int (iz (F_4 12 ((5 * ev) + kv)))), (8, .int (iz kv)), (3, .int (iz nw)), (6, .int (iz mw)), (7, .int (iz ev)), (0, .ref mo), (1, .int (iz p0)), (2, .int (iz p1))]) hx hb dX6_told_154 hl (by decide) rfl (fun ls hl => ?_)
                              refine lv_iload_n hx hb dX6_told_156 rfl (lv_at hl 4 rfl) ?_
                              refine lv_iload_n hx hb dX6_told_157 rfl (lv_at hl 8 rfl) ?_
                              refine ki_icmp_ne (tgt := 166) hx hb dX6_told_158 (by decide) (by omega) (by omega) (by omega) (by omega) (fun c_108 => ?_) (fun c_108 => ?_)
                              · omega
                              · skip
                                refine lv_iload hx hb dX6_told_161 (lv_at hl 2 rfl) ?_
                                refine lv_goto (tgt := 168) hx hb dX6_told_163 (by decide) ?_
                                refine lv_istore (lv' := [(6, .int (iz (F_4 12 ((5 * ev) + kv)))), (5, .int (iz ev)), (4, .int (iz 2)), (9, .int (iz (F_4 12 ((5 * ev) + kv)))), (8, .int (iz kv)), (3, .int (iz nw)), (7, .int (iz ev)), (0, .ref mo), (1, .int (iz p0)), (2, .int (iz p1))]) hx hb dX6_told_168 hl (by decide) rfl (fun ls hl => ?_)
                                refine lv_iinc (v := iz (nw + 1)) (lv' := [(3, .int (iz (nw + 1))), (6, .int (iz (F_4 12 ((5 * ev) + kv)))), (5, .int (iz ev)), (4, .int (iz 2)), (9, .int (iz (F_4 12 ((5 * ev) + kv)))), (8, .int (iz kv)), (7, .int (iz ev)), (0, .ref mo), (1, .int (iz p0)), (2, .int (iz p1))]) hx hb dX6_told_170 hl (k := 5) rfl (iz_add nw 1) (by decide) rfl (fun ls hl => ?_)
                                refine lv_iinc (v := iz (kv + 1)) (lv' := [(8, .int (iz (kv + 1))), (3, .int (iz (nw + 1))), (6, .int (iz (F_4 12 ((5 * ev) + kv)))), (5, .int (iz ev)), (4, .int (iz 2)), (9, .int (iz (F_4 12 ((5 * ev) + kv)))), (7, .int (iz ev)), (0, .ref mo), (1, .int (iz p0)), (2, .int (iz p1))]) hx hb dX6_told_173 hl (k := 5) rfl (iz_add kv 1) (by decide) rfl (fun ls hl => ?_)
                                refine lv_goto (tgt := 89) hx hb dX6_told_176 (by decide) ?_
                                exact ih89 (nw + 1) 2 ev (F_4 12 ((5 * ev) + kv)) (kv + 1) ⟨by omega, by omega, by omega, by omega, by omega, (by rw [show (kv + 1).toNat = kv.toNat + 1 by omega, (wr_s_app (I_3 1) (F_4 17) (wr_pg F_4) (wr_se F_4) ev kv.toNat 0), show (0 : Int) + ((kv.toNat : Nat) : Int) = kv by omega, wr_b_t (show wr_np (I_3 1) (F_4 17) (wr_pg F_4) (F_4 17 (wr_se F_4 ev kv)) from hq_99)]; rw [if_pos rfl, ← List.append_assoc, ← List.append_assoc, List.append_assoc (wr_R _ _ _)]; exact wr_T_hit (hT2 ()) (by omega))⟩ (by omega) _ _ hP hD hS ls (lv_sub hl [0, 1, 2, 3, 4, 6, 7, 8, 9] rfl)
                exact lp89 _ (nv + 1) kd av mv 0 ⟨by omega, by omega, by omega, by omega, by omega, by show wr_T p0 (_ ++ (_ ++ [])) 0 0 0 _ _ _ _; rw [List.append_nil]; exact (by rw [show wr_o (F_4 11) ev = [(1, ev, F_4 11 ev)] from if_pos (by omega)]; exact wr_T_miss _ (hT ()) (by omega))⟩ (Nat.lt_succ_self _) _ _ hP hD hS ls (lv_sub hl [0, 1, 2, 3, 4, 5, 6, 7, 8] rfl)
              · omega
            · omega
          · skip
            refine lv_iconst (v := iz 1) hx hb dX6_told_42 (by decide) ?_
            refine lv_goto (tgt := 48) hx hb dX6_told_43 (by decide) ?_
            refine lv_istore (lv' := [(4, .int (iz 1)), (7, .int (iz ev)), (6, .int (iz mv)), (5, .int (iz av)), (3, .int (iz nv)), (0, .ref mo), (1, .int (iz p0)), (2, .int (iz p1))]) hx hb dX6_told_48 hl (by decide) rfl (fun ls hl => ?_)
            refine lv_iload_n hx hb dX6_told_50 rfl (lv_at hl 4 rfl) ?_
            refine lv_iload_n hx hb dX6_told_51 rfl (lv_at hl 6 rfl) ?_
            refine ki_icmp_ne (tgt := 60) hx hb dX6_told_52 (by decide) (by omega) (by omega) (by omega) (by omega) (fun c_109 => ?_) (fun c_109 => ?_)
            · omega
            · skip
              refine lv_iload hx hb dX6_told_55 (lv_at hl 1 rfl) ?_
              refine lv_goto (tgt := 62) hx hb dX6_told_57 (by decide) ?_
              refine lv_istore (lv' := [(5, .int (iz ev)), (4, .int (iz 1)), (7, .int (iz ev)), (6, .int (iz mv)), (3, .int (iz nv)), (0, .ref mo), (1, .int (iz p0)), (2, .int (iz p1))]) hx hb dX6_told_62 hl (by decide) rfl (fun ls hl => ?_)
              refine lv_iload_n hx hb dX6_told_64 rfl (lv_at hl 4 rfl) ?_
              refine lv_iload_n hx hb dX6_told_65 rfl (lv_at hl 6 rfl) ?_
              refine ki_icmp_ne (tgt := 79) hx hb dX6_told_66 (by decide) (by omega) (by omega) (by omega) (by omega) (fun c_110 => ?_) (fun c_110 => ?_)
              · omega
              · skip
                refine lv_aload_n hx hb dX6_told_69 rfl (lv_at hl 5 rfl) ?_
                refine va_get (D := (dC, dI)) (ci := 6) (v := .ref (ma 11)) (C := RX6) (T := TX6) (N := 44) hx hb hts kt_X6 hown hK hP 0 rfl rfl 11 (by decide) (kx_word hG kq_04_msmall_21 rfl) (fun _ h9 => h9) rfl dX6_told_70 ?_
                refine lv_iload hx hb dX6_told_73 (lv_at hl 2 rfl) ?_
                refine ki_iald (F := F_4 11) hx hb hK hP 10 9 rfl rfl (by omega) (by omega) (by decide) dX6_told_75 ?_
                refine lv_goto (tgt := 81) hx hb dX6_told_76 (by decide) ?_
                refine lv_istore (lv' := [(6, .int (iz (F_4 11 ev))), (5, .int (iz ev)), (4, .int (iz 1)), (7, .int (iz ev)), (3, .int (iz nv)), (0, .ref mo), (1, .int (iz p0)), (2, .int (iz p1))]) hx hb dX6_told_81 hl (by decide) rfl (fun ls hl => ?_)
                refine lv_iinc (v := iz (nv + 1)) (lv' := [(3, .int (iz (nv + 1))), (6, .int (iz (F_4 11 ev))), (5, .int (iz ev)), (4, .int (iz 1)), (7, .int (iz ev)), (0, .ref mo), (1, .int (iz p0)), (2, .int (iz p1))]) hx hb dX6_told_83 hl (k := 4) rfl (iz_add nv 1) (by decide) rfl (fun ls hl => ?_)
                refine lv_iconst (v := iz 0) hx hb dX6_told_86 (by decide) ?_
                refine lv_istore (lv' := [(8, .int (iz 0)), (3, .int (iz (nv + 1))), (6, .int (iz (F_4 11 ev))), (5, .int (iz ev)), (4, .int (iz 1)), (7, .int (iz ev)), (0, .ref mo), (1, .int (iz p0)), (2, .int (iz p1))]) hx hb dX6_told_87 hl (by decide) rfl (fun ls hl => ?_)
                have lp89 : ∀ (n : Nat) (nw kw aw mw kv : Int), ((0 ≤ nw ∧ nw ≤ 7 * ev + 1 + kv) ∧ (0 ≤ kw ∧ kw ≤ 3) ∧ (-2147483648 ≤ aw ∧ aw < 2147483648) ∧ (-2147483648 ≤ mw ∧ mw < 2147483648) ∧ (0 ≤ kv ∧ kv ≤ F_4 13 ev) ∧ (wr_T p0 (wr_R I_3 F_4 ev.toNat ++ (wr_o (F_4 11) ev ++ wr_s (I_3 1) (F_4 17) (wr_pg F_4) (wr_se F_4) ev (kv).toNat 0)) 0 0 0 nw kw aw mw)) → (F_4 13 ev - kv).toNat < n → ∀ (H : Heap) (locs : List Loc), va_P (dC, dI) kxCl (mW mo ma cs I_3 F_4) H → va_D A (mW mo ma cs I_3 F_4) → va_S A s.heap H locs → ∀ ls : Array Slot, lv_has ls 10 [(8, .int (iz kv)), (3, .int (iz nw)), (6, .int (iz mw)), (5, .int (iz aw)), (4, .int (iz kw)), (7, .int (iz ev)), (0, .ref mo), (1, .int (iz p0)), (2, .int (iz p1))] → W p l e (headSpec [.code yX6_told cX6_told 10 (some .int)] ({ frames := 5, cells := 0, slots := 0, locals := 120 })).room s m ([.ref mo, .int (iz p0), .int (iz p1)] : List Value).toArray below meth c H locs 0 0 QQ (F0 m 89 ls []) := by
                  intro n
                  induction n with
                  | zero => intro nw kw aw mw kv hinv hm; exact absurd hm (Nat.not_lt_zero _)
                  | succ n ih89 =>
                    intro nw kw aw mw kv hinv hm H locs hP hD hS ls hl
                    obtain ⟨hnw, hkw, haw, hmw, hkv, hT2⟩ := hinv
                    replace hT2 := fun (_ : Unit) => hT2
                    refine lv_iload hx hb dX6_told_89 (lv_at hl 0 rfl) ?_
                    refine lv_aload_n hx hb dX6_told_91 rfl (lv_at hl 6 rfl) ?_
                    refine va_get (D := (dC, dI)) (ci := 6) (v := .ref (ma 13)) (C := RX6) (T := TX6) (N := 44) hx hb hts kt_X6 hown hK hP 0 rfl rfl 13 (by decide) (kx_word hG kq_04_msmall_38 rfl) (fun _ h9 => h9) rfl dX6_told_92 ?_
                    refine lv_iload hx hb dX6_told_95 (lv_at hl 5 rfl) ?_
                    refine ki_iald (F := F_4 13) hx hb hK hP 12 11 rfl rfl (by omega) (by omega) (by decide) dX6_told_97 ?_
                    have hbd_111 := hI6.hB.2 13 ev
                    refine ki_icmp_ge (tgt := 179) hx hb dX6_told_98 (by decide) (by omega) (by omega) (by omega) (by omega) (fun c_112 => ?_) (fun c_112 => ?_)
                    · skip
                      refine lv_aload_n hx hb dX6_told_179 rfl (lv_at hl 6 rfl) ?_
                      refine lv_iload hx hb dX6_told_180 (lv_at hl 5 rfl) ?_
                      refine mk_calli (As := [.int (iz ev)]) (rest := []) ⟨hx, hb, hml, hown, hts⟩ (k_isBare2 l dC dI mo ma cs I_3 F_4 ev H.size hI6.hB hI6.hc hI6.hln hI6.hlv (by omega)) (cwV 1 hts (kx_gV kq_11_mask_4 kq_11_mask_5 kq_11_mask_6 kq_04_msmall_6 kq_11_mask_7 rfl) rfl rfl rfl (by decide +kernel) ⟨Nat.le_of_ble_eq_true rfl, Nat.le_of_ble_eq_true rfl⟩) hP hD hK hG hZ hS hA rfl hl.1 rfl (Nat.le_of_ble_eq_true rfl) dX6_told_182 ⟨Nat.le_of_ble_eq_true rfl, Nat.le_of_ble_eq_true rfl⟩ (fun z_113 I_115 F_116 H locs hq_114 hP hD hS => ?_)
                      try dsimp only at hq_114
                      obtain ⟨rfl, rfl, hq_114⟩ := hq_114
                      rcases hq_114 with ⟨rfl, hq_114⟩ | ⟨rfl, hq_114⟩
                      · skip
                        refine ki_if_eq (tgt := 218) hx hb dX6_told_185 (by decide) (by omega) (by omega) (fun c_117 => ?_) (fun c_117 => ?_)
                        · omega
                        · skip
                          refine lv_iload_n hx hb dX6_told_188 rfl (lv_at hl 1 rfl) ?_
                          refine lv_iload_n hx hb dX6_told_189 rfl (lv_at hl 7 rfl) ?_
                          refine ki_icmp_ne (tgt := 197) hx hb dX6_told_190 (by decide) (by omega) (by omega) (by omega) (by omega) (fun c_118 => ?_) (fun c_118 => ?_)
                          · skip
                            refine lv_iload hx hb dX6_told_197 (lv_at hl 4 rfl) ?_
                            refine lv_istore (lv' := [(4, .int (iz kw)), (8, .int (iz kv)), (3, .int (iz nw)), (6, .int (iz mw)), (5, .int (iz aw)), (7, .int (iz ev)), (0, .ref mo), (1, .int (iz p0)), (2, .int (iz p1))]) hx hb dX6_told_199 hl (by decide) rfl (fun ls hl => ?_)
                            refine lv_iload_n hx hb dX6_told_201 rfl (lv_at hl 2 rfl) ?_
                            refine lv_iload_n hx hb dX6_told_202 rfl (lv_at hl 7 rfl) ?_
                            refine ki_icmp_ne (tgt := 211) hx hb dX6_told_203 (by decide) (by omega) (by omega) (by omega) (by omega) (fun c_119 => ?_) (fun c_119 => ?_)
                            · skip
                              refine lv_iload hx hb dX6_told_211 (lv_at hl 4 rfl) ?_
                              refine lv_istore (lv' := [(5, .int (iz aw)), (4, .int (iz kw)), (8, .int (iz kv)), (3, .int (iz nw)), (6, .int (iz mw)), (7, .int (iz ev)), (0, .ref mo), (1, .int (iz p0)), (2, .int (iz p1))]) hx hb dX6_told_213 hl (by decide) rfl (fun ls hl => ?_)
                              refine lv_iinc (v := iz (nw + 1)) (lv' := [(3, .int (iz (nw + 1))), (5, .int (iz aw)), (4, .int (iz kw)), (8, .int (iz kv)), (6, .int (iz mw)), (7, .int (iz ev)), (0, .ref mo), (1, .int (iz p0)), (2, .int (iz p1))]) hx hb dX6_told_215 hl (k := 3) rfl (iz_add nw 1) (by decide) rfl (fun ls hl => ?_)
                              refine lv_iinc (v := iz (ev + 1)) (lv' := [(7, .int (iz (ev + 1))), (3, .int (iz (nw + 1))), (5, .int (iz aw)), (4, .int (iz kw)), (8, .int (iz kv)), (6, .int (iz mw)), (0, .ref mo), (1, .int (iz p0)), (2, .int (iz p1))]) hx hb dX6_told_218 hl (k := 5) rfl (iz_add ev 1) (by decide) rfl (fun ls hl => ?_)
                              refine lv_goto (tgt := 18) hx hb dX6_told_221 (by decide) ?_
                              exact ih18 (nw + 1) kw aw mw (ev + 1) ⟨by omega, by omega, by omega, by omega, by omega, (by rw [(show wr_R I_3 F_4 (ev + 1).toNat = (wr_R I_3 F_4 ev.toNat ++ (wr_o (F_4 11) ev ++ wr_s (I_3 1) (F_4 17) (wr_pg F_4) (wr_se F_4) ev (kv).toNat 0)) ++ _ from (by unfold wr_R; rw [show (ev + 1).toNat = ev.toNat + 1 by omega, wr_a_app, show (0 : Int) + ((ev.toNat : Nat) : Int) = ev by omega]; unfold wr_e; rw [show F_4 13 ev = kv by omega, ← List.append_assoc (wr_o (F_4 11) ev), ← List.append_assoc])), wr_b_t hq_114, if_pos rfl]; exact wr_T_miss _ (hT2 ()) (by omega))⟩ (by omega) _ _ hP hD hS ls (lv_sub hl [0, 5, 2, 3, 1, 6, 7, 8] rfl)
                            · omega
                          · skip
                            refine lv_iconst (v := iz 3) hx hb dX6_told_193 (by decide) ?_
                            refine lv_goto (tgt := 199) hx hb dX6_told_194 (by decide) ?_
                            refine lv_istore (lv' := [(4, .int (iz 3)), (8, .int (iz kv)), (3, .int (iz nw)), (6, .int (iz mw)), (5, .int (iz aw)), (7, .int (iz ev)), (0, .ref mo), (1, .int (iz p0)), (2, .int (iz p1))]) hx hb dX6_told_199 hl (by decide) rfl (fun ls hl => ?_)
                            refine lv_iload_n hx hb dX6_told_201 rfl (lv_at hl 2 rfl) ?_
                            refine lv_iload_n hx hb dX6_told_202 rfl (lv_at hl 7 rfl) ?_
                            refine ki_icmp_ne (tgt := 211) hx hb dX6_told_203 (by decide) (by omega) (by omega) (by omega) (by omega) (fun c_120 => ?_) (fun c_120 => ?_)
                            · omega
                            · skip
                              refine lv_iload hx hb dX6_told_206 (lv_at hl 5 rfl) ?_
                              refine lv_goto (tgt := 213) hx hb dX6_told_208 (by decide) ?_
                              refine lv_istore (lv' := [(5, .int (iz ev)), (4, .int (iz 3)), (8, .int (iz kv)), (3, .int (iz nw)), (6, .int (iz mw)), (7, .int (iz ev)), (0, .ref mo), (1, .int (iz p0)), (2, .int (iz p1))]) hx hb dX6_told_213 hl (by decide) rfl (fun ls hl => ?_)
                              refine lv_iinc (v := iz (nw + 1)) (lv' := [(3, .int (iz (nw + 1))), (5, .int (iz ev)), (4, .int (iz 3)), (8, .int (iz kv)), (6, .int (iz mw)), (7, .int (iz ev)), (0, .ref mo), (1, .int (iz p0)), (2, .int (iz p1))]) hx hb dX6_told_215 hl (k := 3) rfl (iz_add nw 1) (by decide) rfl (fun ls hl => ?_)
                              have hat9 := wr_T_at (hT2 ()) (by omega)
                              refine lv_iinc (v := iz (ev + 1)) (lv' := [(7, .int (iz (ev + 1))), (3, .int (iz (nw + 1))), (5, .int (iz ev)), (4, .int (iz 3)), (8, .int (iz kv)), (6, .int (iz mw)), (0, .ref mo), (1, .int (iz p0)), (2, .int (iz p1))]) hx hb dX6_told_218 hl (k := 5) rfl (iz_add ev 1) (by decide) rfl (fun ls hl => ?_)
                              refine lv_goto (tgt := 18) hx hb dX6_told_221 (by decide) ?_
                              exact ih18 (nw + 1) 3 ev mw (ev + 1) ⟨by omega, by omega, by omega, by omega, by omega, (by rw [(show wr_R I_3 F_4 (ev + 1).toNat = (wr_R I_3 F_4 ev.toNat ++ (wr_o (F_4 11) ev ++ wr_s (I_3 1) (F_4 17) (wr_pg F_4) (wr_se F_4) ev (kv).toNat 0)) ++ _ from (by unfold wr_R; rw [show (ev + 1).toNat = ev.toNat + 1 by omega, wr_a_app, show (0 : Int) + ((ev.toNat : Nat) : Int) = ev by omega]; unfold wr_e; rw [show F_4 13 ev = kv by omega, ← List.append_assoc (wr_o (F_4 11) ev), ← List.append_assoc])), wr_b_t hq_114, if_pos rfl]; exact (by rw [hat9.2.2]; exact wr_T_hit (hT2 ()) (by omega)))⟩ (by omega) _ _ hP hD hS ls (lv_sub hl [0, 5, 2, 3, 1, 6, 7, 8] rfl)
                      · skip
                        refine ki_if_eq (tgt := 218) hx hb dX6_told_185 (by decide) (by omega) (by omega) (fun c_121 => ?_) (fun c_121 => ?_)
                        · skip
                          refine lv_iinc (v := iz (ev + 1)) (lv' := [(7, .int (iz (ev + 1))), (8, .int (iz kv)), (3, .int (iz nw)), (6, .int (iz mw)), (5, .int (iz aw)), (4, .int (iz kw)), (0, .ref mo), (1, .int (iz p0)), (2, .int (iz p1))]) hx hb dX6_told_218 hl (k := 5) rfl (iz_add ev 1) (by decide) rfl (fun ls hl => ?_)
                          refine lv_goto (tgt := 18) hx hb dX6_told_221 (by decide) ?_
                          exact ih18 nw kw aw mw (ev + 1) ⟨by omega, by omega, by omega, by omega, by omega, (by rw [(show wr_R I_3 F_4 (ev + 1).toNat = (wr_R I_3 F_4 ev.toNat ++ (wr_o (F_4 11) ev ++ wr_s (I_3 1) (F_4 17) (wr_pg F_4) (wr_se F_4) ev (kv).toNat 0)) ++ _ from (by unfold wr_R; rw [show (ev + 1).toNat = ev.toNat + 1 by omega, wr_a_app, show (0 : Int) + ((ev.toNat : Nat) : Int) = ev by omega]; unfold wr_e; rw [show F_4 13 ev = kv by omega, ← List.append_assoc (wr_o (F_4 11) ev), ← List.append_assoc])), wr_b_f hq_114, if_neg (by decide), List.append_nil]; exact hT2 ())⟩ (by omega) _ _ hP hD hS ls (lv_sub hl [0, 3, 4, 5, 2, 6, 7, 8] rfl)
                        · omega
                    · skip
                      have hse9 := hI6.hse ev kv (by omega) (by omega) (by omega) (by omega)
                      refine lv_aload_n hx hb dX6_told_101 rfl (lv_at hl 6 rfl) ?_
                      refine va_get (D := (dC, dI)) (ci := 6) (v := .ref (ma 12)) (C := RX6) (T := TX6) (N := 44) hx hb hts kt_X6 hown hK hP 0 rfl rfl 12 (by decide) (kx_word hG kq_04_msmall_39 rfl) (fun _ h9 => h9) rfl dX6_told_102 ?_
                      refine lv_iconst (v := iz 5) hx hb dX6_told_105 (by decide) ?_
                      refine lv_iload hx hb dX6_told_106 (lv_at hl 5 rfl) ?_
                      refine ki_imul hx hb dX6_told_108 ?_
                      refine lv_iload hx hb dX6_told_109 (lv_at hl 0 rfl) ?_
                      refine ki_iadd hx hb dX6_told_111 ?_
                      refine ki_iald (F := F_4 12) hx hb hK hP 11 10 rfl rfl (by omega) (by omega) (by decide) dX6_told_112 ?_
                      have hbd_122 := hI6.hB.2 12 ((5 * ev) + kv)
                      refine lv_istore (lv' := [(9, .int (iz (F_4 12 ((5 * ev) + kv)))), (8, .int (iz kv)), (3, .int (iz nw)), (6, .int (iz mw)), (5, .int (iz aw)), (4, .int (iz kw)), (7, .int (iz ev)), (0, .ref mo), (1, .int (iz p0)), (2, .int (iz p1))]) hx hb dX6_told_113 hl (by decide) rfl (fun ls hl => ?_)
                      refine lv_aload_n hx hb dX6_told_115 rfl (lv_at hl 7 rfl) ?_
                      refine lv_aload_n hx hb dX6_told_116 rfl (lv_at hl 7 rfl) ?_
                      refine va_get (D := (dC, dI)) (ci := 6) (v := .ref (ma 17)) (C := RX6) (T := TX6) (N := 44) hx hb hts kt_X6 hown hK hP 0 rfl rfl 17 (by decide) (kx_word hG kq_06_mway_15 rfl) (fun _ h9 => h9) rfl dX6_told_117 ?_
                      have hsm9 := hsmL (F_4 12 ((5 * ev) + kv)) (by omega) (by omega)
                      refine lv_iload hx hb dX6_told_120 (lv_at hl 0 rfl) ?_
                      refine ki_iald (F := F_4 17) hx hb hK hP 13 12 rfl rfl (by omega) (by omega) (by decide) dX6_told_122 ?_
                      have hbd_123 := hI6.hB.2 17 (F_4 12 ((5 * ev) + kv))
                      refine mk_calli (As := [.int (iz (F_4 17 (F_4 12 ((5 * ev) + kv))))]) (rest := []) ⟨hx, hb, hml, hown, hts⟩ (k_hasPage2 l dC dI mo ma cs I_3 F_4 (F_4 17 (F_4 12 ((5 * ev) + kv))) H.size hI6.hB hI6.hc hI6.hln (by omega) (by omega)) (cwV 1 hts (kx_gV kq_08_mgather_9 kq_08_mgather_10 kq_08_mgather_11 kq_04_msmall_6 kq_08_mgather_12 rfl) rfl rfl rfl (by decide +kernel) ⟨Nat.le_of_ble_eq_true rfl, Nat.le_of_ble_eq_true rfl⟩) hP hD hK hG hZ hS hA rfl hl.1 rfl (Nat.le_of_ble_eq_true rfl) dX6_told_123 ⟨Nat.le_of_ble_eq_true rfl, Nat.le_of_ble_eq_true rfl⟩ (fun z_124 I_126 F_127 H locs hq_125 hP hD hS => ?_)
                      try dsimp only at hq_125
                      obtain ⟨rfl, rfl, hq_125⟩ := hq_125
                      rcases hq_125 with ⟨rfl, hq_125⟩ | ⟨rfl, hq_125⟩
                      · skip
                        refine ki_if_ne (tgt := 173) hx hb dX6_told_126 (by decide) (by omega) (by omega) (fun c_128 => ?_) (fun c_128 => ?_)
                        · skip
                          refine lv_iinc (v := iz (kv + 1)) (lv' := [(8, .int (iz (kv + 1))), (9, .int (iz (F_4 12 ((5 * ev) + kv)))), (3, .int (iz nw)), (6, .int (iz mw)), (5, .int (iz aw)), (4, .int (iz kw)), (7, .int (iz ev)), (0, .ref mo), (1, .int (iz p0)), (2, .int (iz p1))]) hx hb dX6_told_173 hl (k := 1) rfl (iz_add kv 1) (by decide) rfl (fun ls hl => ?_)
                          refine lv_goto (tgt := 89) hx hb dX6_told_176 (by decide) ?_
                          exact ih89 nw kw aw mw (kv + 1) ⟨by omega, by omega, by omega, by omega, by omega, (by rw [show (kv + 1).toNat = kv.toNat + 1 by omega, (wr_s_app (I_3 1) (F_4 17) (wr_pg F_4) (wr_se F_4) ev kv.toNat 0), show (0 : Int) + ((kv.toNat : Nat) : Int) = kv by omega, wr_b_f (show ¬ wr_np (I_3 1) (F_4 17) (wr_pg F_4) (F_4 17 (wr_se F_4 ev kv)) from hq_125)]; rw [if_neg (by decide), List.append_nil]; exact hT2 ())⟩ (by omega) _ _ hP hD hS ls (lv_sub hl [0, 2, 3, 4, 5, 6, 7, 8, 9] rfl)
                        · omega
                      · skip
                        refine ki_if_ne (tgt := 173) hx hb dX6_told_126 (by decide) (by omega) (by omega) (fun c_129 => ?_) (fun c_129 => ?_)
                        · omega
                        · skip
                          refine lv_iload_n hx hb dX6_told_129 rfl (lv_at hl 2 rfl) ?_
                          refine lv_iload_n hx hb dX6_told_130 rfl (lv_at hl 8 rfl) ?_
                          refine ki_icmp_ne (tgt := 138) hx hb dX6_told_131 (by decide) (by omega) (by omega) (by omega) (by omega) (fun c_130 => ?_) (fun c_130 => ?_)
                          · skip
                            refine lv_iload hx hb dX6_told_138 (lv_at hl 5 rfl) ?_
                            refine lv_istore (lv' := [(4, .int (iz kw)), (9, .int (iz (F_4 12 ((5 * ev) + kv)))), (8, .int (iz kv)), (3, .int (iz nw)), (6, .int (iz mw)), (5, .int (iz aw)), (7, .int (iz ev)), (0, .ref mo), (1, .int (iz p0)), (2, .int (iz p1))]) hx hb dX6_told_140 hl (by decide) rfl (fun ls hl => ?_)
                            refine lv_iload_n hx hb dX6_told_142 rfl (lv_at hl 3 rfl) ?_
                            refine lv_iload_n hx hb dX6_told_143 rfl (lv_at hl 8 rfl) ?_
                            refine ki_icmp_ne (tgt := 152) hx hb dX6_told_144 (by decide) (by omega) (by omega) (by omega) (by omega) (fun c_131 => ?_) (fun c_131 => ?_)
                            · skip
                              refine lv_iload hx hb dX6_told_152 (lv_at hl 5 rfl) ?_
                              refine lv_istore (lv' := [(5, .int (iz aw)), (4, .int (iz kw)), (9, .int (iz (F_4 12 ((5 * ev) + kv)))), (8, .int (iz kv)), (3, .int (iz nw)), (6, .int (iz mw)), (7, .int (iz ev)), (0, .ref mo), (1, .int (iz p0)), (2, .int (iz p1))]) hx hb dX6_told_154 hl (by decide) rfl (fun ls hl => ?_)
                              refine lv_iload_n hx hb dX6_told_156 rfl (lv_at hl 4 rfl) ?_
                              refine lv_iload_n hx hb dX6_told_157 rfl (lv_at hl 8 rfl) ?_
                              refine ki_icmp_ne (tgt := 166) hx hb dX6_told_158 (by decide) (by omega) (by omega) (by omega) (by omega) (fun c_132 => ?_) (fun c_132 => ?_)
                              · skip
                                refine lv_iload hx hb dX6_told_166 (lv_at hl 5 rfl) ?_
                                refine lv_istore (lv' := [(6, .int (iz mw)), (5, .int (iz aw)), (4, .int (iz kw)), (9, .int (iz (F_4 12 ((5 * ev) + kv)))), (8, .int (iz kv)), (3, .int (iz nw)), (7, .int (iz ev)), (0, .ref mo), (1, .int (iz p0)), (2, .int (iz p1))]) hx hb dX6_told_168 hl (by decide) rfl (fun ls hl => ?_)
                                refine lv_iinc (v := iz (nw + 1)) (lv' := [(3, .int (iz (nw + 1))), (6, .int (iz mw)), (5, .int (iz aw)), (4, .int (iz kw)), (9, .int (iz (F_4 12 ((5 * ev) + kv)))), (8, .int (iz kv)), (7, .int (iz ev)), (0, .ref mo), (1, .int (iz p0)), (2, .int (iz p1))]) hx hb dX6_told_170 hl (k := 5) rfl (iz_add nw 1) (by decide) rfl (fun ls hl => ?_)
                                refine lv_iinc (v := iz (kv + 1)) (lv' := [(8, .int (iz (kv + 1))), (3, .int (iz (nw + 1))), (6, .int (iz mw)), (5, .int (iz aw)), (4, .int (iz kw)), (9, .int (iz (F_4 12 ((5 * ev) + kv)))), (7, .int (iz ev)), (0, .ref mo), (1, .int (iz p0)), (2, .int (iz p1))]) hx hb dX6_told_173 hl (k := 5) rfl (iz_add kv 1) (by decide) rfl (fun ls hl => ?_)
                                refine lv_goto (tgt := 89) hx hb dX6_told_176 (by decide) ?_
                                exact ih89 (nw + 1) kw aw mw (kv + 1) ⟨by omega, by omega, by omega, by omega, by omega, (by rw [show (kv + 1).toNat = kv.toNat + 1 by omega, (wr_s_app (I_3 1) (F_4 17) (wr_pg F_4) (wr_se F_4) ev kv.toNat 0), show (0 : Int) + ((kv.toNat : Nat) : Int) = kv by omega, wr_b_t (show wr_np (I_3 1) (F_4 17) (wr_pg F_4) (F_4 17 (wr_se F_4 ev kv)) from hq_125)]; rw [if_pos rfl, ← List.append_assoc, ← List.append_assoc, List.append_assoc (wr_R _ _ _)]; exact wr_T_miss _ (hT2 ()) (by omega))⟩ (by omega) _ _ hP hD hS ls (lv_sub hl [0, 1, 2, 3, 4, 6, 7, 8, 9] rfl)
                              · omega
                            · omega
                          · skip
                            refine lv_iconst (v := iz 2) hx hb dX6_told_134 (by decide) ?_
                            refine lv_goto (tgt := 140) hx hb dX6_told_135 (by decide) ?_
                            refine lv_istore (lv' := [(4, .int (iz 2)), (9, .int (iz (F_4 12 ((5 * ev) + kv)))), (8, .int (iz kv)), (3, .int (iz nw)), (6, .int (iz mw)), (5, .int (iz aw)), (7, .int (iz ev)), (0, .ref mo), (1, .int (iz p0)), (2, .int (iz p1))]) hx hb dX6_told_140 hl (by decide) rfl (fun ls hl => ?_)
                            refine lv_iload_n hx hb dX6_told_142 rfl (lv_at hl 3 rfl) ?_
                            refine lv_iload_n hx hb dX6_told_143 rfl (lv_at hl 8 rfl) ?_
                            refine ki_icmp_ne (tgt := 152) hx hb dX6_told_144 (by decide) (by omega) (by omega) (by omega) (by omega) (fun c_133 => ?_) (fun c_133 => ?_)
                            · omega
                            · skip
                              refine lv_iload hx hb dX6_told_147 (lv_at hl 6 rfl) ?_
                              refine lv_goto (tgt := 154) hx hb dX6_told_149 (by decide) ?_
                              refine lv_istore (lv' := [(5, .int (iz ev)), (4, .int (iz 2)), (9, .int (iz (F_4 12 ((5 * ev) + kv)))), (8, .int (iz kv)), (3, .int (iz nw)), (6, .int (iz mw)), (7, .int (iz ev)), (0, .ref mo), (1, .int (iz p0)), (2, .int (iz p1))]) hx hb dX6_told_154 hl (by decide) rfl (fun ls hl => ?_)
                              refine lv_iload_n hx hb dX6_told_156 rfl (lv_at hl 4 rfl) ?_
                              refine lv_iload_n hx hb dX6_told_157 rfl (lv_at hl 8 rfl) ?_
                              refine ki_icmp_ne (tgt := 166) hx hb dX6_told_158 (by decide) (by omega) (by omega) (by omega) (by omega) (fun c_134 => ?_) (fun c_134 => ?_)
                              · omega
                              · skip
                                refine lv_iload hx hb dX6_told_161 (lv_at hl 2 rfl) ?_
                                refine lv_goto (tgt := 168) hx hb dX6_told_163 (by decide) ?_
                                refine lv_istore (lv' := [(6, .int (iz (F_4 12 ((5 * ev) + kv)))), (5, .int (iz ev)), (4, .int (iz 2)), (9, .int (iz (F_4 12 ((5 * ev) + kv)))), (8, .int (iz kv)), (3, .int (iz nw)), (7, .int (iz ev)), (0, .ref mo), (1, .int (iz p0)), (2, .int (iz p1))]) hx hb dX6_told_168 hl (by decide) rfl (fun ls hl => ?_)
                                refine lv_iinc (v := iz (nw + 1)) (lv' := [(3, .int (iz (nw + 1))), (6, .int (iz (F_4 12 ((5 * ev) + kv)))), (5, .int (iz ev)), (4, .int (iz 2)), (9, .int (iz (F_4 12 ((5 * ev) + kv)))), (8, .int (iz kv)), (7, .int (iz ev)), (0, .ref mo), (1, .int (iz p0)), (2, .int (iz p1))]) hx hb dX6_told_170 hl (k := 5) rfl (iz_add nw 1) (by decide) rfl (fun ls hl => ?_)
                                refine lv_iinc (v := iz (kv + 1)) (lv' := [(8, .int (iz (kv + 1))), (3, .int (iz (nw + 1))), (6, .int (iz (F_4 12 ((5 * ev) + kv)))), (5, .int (iz ev)), (4, .int (iz 2)), (9, .int (iz (F_4 12 ((5 * ev) + kv)))), (7, .int (iz ev)), (0, .ref mo), (1, .int (iz p0)), (2, .int (iz p1))]) hx hb dX6_told_173 hl (k := 5) rfl (iz_add kv 1) (by decide) rfl (fun ls hl => ?_)
                                refine lv_goto (tgt := 89) hx hb dX6_told_176 (by decide) ?_
                                exact ih89 (nw + 1) 2 ev (F_4 12 ((5 * ev) + kv)) (kv + 1) ⟨by omega, by omega, by omega, by omega, by omega, (by rw [show (kv + 1).toNat = kv.toNat + 1 by omega, (wr_s_app (I_3 1) (F_4 17) (wr_pg F_4) (wr_se F_4) ev kv.toNat 0), show (0 : Int) + ((kv.toNat : Nat) : Int) = kv by omega, wr_b_t (show wr_np (I_3 1) (F_4 17) (wr_pg F_4) (F_4 17 (wr_se F_4 ev kv)) from hq_125)]; rw [if_pos rfl, ← List.append_assoc, ← List.append_assoc, List.append_assoc (wr_R _ _ _)]; exact wr_T_hit (hT2 ()) (by omega))⟩ (by omega) _ _ hP hD hS ls (lv_sub hl [0, 1, 2, 3, 4, 6, 7, 8, 9] rfl)
                exact lp89 _ (nv + 1) 1 ev (F_4 11 ev) 0 ⟨by omega, by omega, by omega, by omega, by omega, by show wr_T p0 (_ ++ (_ ++ [])) 0 0 0 _ _ _ _; rw [List.append_nil]; exact (by rw [show wr_o (F_4 11) ev = [(1, ev, F_4 11 ev)] from if_pos (by omega)]; exact wr_T_hit (hT ()) (by omega))⟩ (Nat.lt_succ_self _) _ _ hP hD hS ls (lv_sub hl [0, 1, 2, 3, 4, 5, 6, 7, 8] rfl)
  exact lp18 _ 0 0 0 0 0 ⟨by omega, by omega, by omega, by omega, by omega, wr_T_nil p0 0 0 0⟩ (Nat.lt_succ_self _) _ _ hP hD hS ls (lv_sub hl [0, 1, 2, 3, 4, 5, 6, 7] rfl)
