/-! the reference, exact: its rows -/

set_option maxHeartbeats 4000000 in
set_option maxRecDepth 100000 in
theorem k_areAlike2 (l : Launch) (dC : Nat → ClassId) (dI : Nat → Nat → Nat) (mo : Nat) (ma : Nat → Nat) (cs : Nat → ClassId) (I : Nat → Int) (F : Nat → Int → Int) (p0 : Int) (p1 : Int) (sz : Nat) (hB : mB I F) (h0 : 0 ≤ p0 ∧ p0 < 80) (h1 : 0 ≤ p1 ∧ p1 < 80) (hn : ∀ e, 0 ≤ F 5 e ∧ F 5 e ≤ 20) (hv0 : F 2 p0 = 0 ∨ (0 ≤ F 3 p0 ∧ F 3 p0 < 80)) (hv1 : F 2 p1 = 0 ∨ (0 ≤ F 3 p1 ∧ F 3 p1 < 80)) : mMi l yX6_areAlike (.code yX6_areAlike cX6_areAlike 5 (some .boolean)) 0 0 dC dI mo ma cs I F [.ref mo, .int (iz p0), .int (iz p1)] sz (fun (r : Int) (I' : Nat → Int) (F' : Nat → Int → Int) => I = I' ∧ F = F' ∧ ((r = 1 ∧ rs_al (F 2) (F 3) (rs_wd F) (F 17) p0 p1) ∨ (r = 0 ∧ ¬ rs_al (F 2) (F 3) (rs_wd F) (F 17) p0 p1))) := by
  refine Met.ofW (cc := cX6_areAlike) (maxL := 5) (ret := (some .boolean)) (by decide) rfl ?_
  intro p e s m args below meth c s₁ B hml hv
  obtain ⟨rfl, hsz, hP, hK, hD0, hG, hZ⟩ := hv
  have hx := B.exec
  have hb := B.bytes
  have hr := B.returns
  have hts := kx_hts (a := ([.ref mo, .int (iz p0), .int (iz p1)] : List Value).toArray) hG
  have hown : s.vm.findClass RX6 = some m.cls := findClass_of_methodNamed B.named
  have hlocks := B.notSynchronized
  subst hsz
  have hD := hD0.self (sz := s.heap.size)
  generalize hAe : va_A (mW mo ma cs I F) s.heap.size = A at hD hZ ⊢
  have hA : ∀ q : Nat, s.heap.size ≤ q → A q := fun q h => by rw [← hAe]; exact Or.inr h
  have hS : va_S A s.heap s.heap [] := va_S.rf
  have hl := lv_entry ([.ref mo, .int (iz p0), .int (iz p1)]) (n := 5) (Nat.le_of_ble_eq_true rfl)
  rw [lg_entry_eq]
  generalize (lg_sl ([.ref mo, .int (iz p0), .int (iz p1)]) ++ List.replicate (5 - (lg_sl ([.ref mo, .int (iz p0), .int (iz p1)])).length) Slot.unset).toArray = ls at hl ⊢
  have hl : lv_has ls 5 [(0, .ref mo), (1, .int (iz p0)), (2, .int (iz p1))] := hl
  generalize hQe : MQ below (mQi dC dI mo ma cs A (fun (r : Int) (I' : Nat → Int) (F' : Nat → Int → Int) => I = I' ∧ F = F' ∧ ((r = 1 ∧ rs_al (F 2) (F 3) (rs_wd F) (F 17) p0 p1) ∨ (r = 0 ∧ ¬ rs_al (F 2) (F 3) (rs_wd F) (F 17) p0 p1)))) ([.ref mo, .int (iz p0), .int (iz p1)] : List Value).toArray s 0 0 A = QQ
  have hna := hn p0
  refine lv_aload_n hx hb dX6_areAlike_0 rfl (lv_at hl 0 rfl) ?_
  refine va_get (D := (dC, dI)) (ci := 6) (v := .ref (ma 2)) (C := RX6) (T := TX6) (N := 44) hx hb hts kt_X6 hown hK hP 0 rfl rfl 2 (by decide) (kx_word hG kq_04_msmall_12 rfl) (fun _ h9 => h9) rfl dX6_areAlike_1 ?_
  refine lv_iload_n hx hb dX6_areAlike_4 rfl (lv_at hl 1 rfl) ?_
  refine ki_iald (F := F 2) hx hb hK hP 1 0 rfl rfl (by omega) (by omega) (by decide) dX6_areAlike_5 ?_
  have hbd_1 := hB.2 2 p0
  refine lv_aload_n hx hb dX6_areAlike_6 rfl (lv_at hl 0 rfl) ?_
  refine va_get (D := (dC, dI)) (ci := 6) (v := .ref (ma 2)) (C := RX6) (T := TX6) (N := 44) hx hb hts kt_X6 hown hK hP 0 rfl rfl 2 (by decide) (kx_word hG kq_04_msmall_12 rfl) (fun _ h9 => h9) rfl dX6_areAlike_7 ?_
  refine lv_iload_n hx hb dX6_areAlike_10 rfl (lv_at hl 2 rfl) ?_
  refine ki_iald (F := F 2) hx hb hK hP 1 0 rfl rfl (by omega) (by omega) (by decide) dX6_areAlike_11 ?_
  have hbd_2 := hB.2 2 p1
  refine ki_icmp_ne (tgt := 68) hx hb dX6_areAlike_12 (by decide) (by omega) (by omega) (by omega) (by omega) (fun c_3 => ?_) (fun c_3 => ?_)
  · skip
    refine lv_iconst (v := iz 0) hx hb dX6_areAlike_68 (by decide) ?_
    refine lv_istore_n (lv' := [(3, .int (iz 0)), (0, .ref mo), (1, .int (iz p0)), (2, .int (iz p1))]) hx hb dX6_areAlike_69 rfl hl (by decide) rfl (fun ls hl => ?_)
    refine lv_iconst (v := iz 0) hx hb dX6_areAlike_70 (by decide) ?_
    refine lv_istore (lv' := [(4, .int (iz 0)), (3, .int (iz 0)), (0, .ref mo), (1, .int (iz p0)), (2, .int (iz p1))]) hx hb dX6_areAlike_71 hl (by decide) rfl (fun ls hl => ?_)
    have lp73 : ∀ (n : Nat) (is k : Int), (((is = 1 ∧ F 2 p0 = F 2 p1 ∧ F 5 p0 = F 5 p1 ∧ (F 2 p0 = 0 ∨ F 17 (F 3 p0) = F 17 (F 3 p1)) ∧ ∀ i, 0 ≤ i → i < k → F 4 (20 * p0 + i) = F 4 (20 * p1 + i)) ∨ (is = 0 ∧ ¬ rs_al (F 2) (F 3) (rs_wd F) (F 17) p0 p1)) ∧ (0 ≤ k ∧ k ≤ 20)) → (F 5 p0 - k).toNat < n → ∀ (H : Heap) (locs : List Loc), va_P (dC, dI) kxCl (mW mo ma cs I F) H → va_D A (mW mo ma cs I F) → va_S A s.heap H locs → ∀ ls : Array Slot, lv_has ls 5 [(4, .int (iz k)), (3, .int (iz is)), (0, .ref mo), (1, .int (iz p0)), (2, .int (iz p1))] → W p l e (headSpec [.code yX6_areAlike cX6_areAlike 5 (some .boolean)] ({ frames := 0, cells := 0, slots := 0, locals := 0 })).room s m ([.ref mo, .int (iz p0), .int (iz p1)] : List Value).toArray below meth c H locs 0 0 QQ (F0 m 73 ls []) := by
      intro n
      induction n with
      | zero => intro is k hinv hm; exact absurd hm (Nat.not_lt_zero _)
      | succ n ih73 =>
        intro is k hinv hm H locs hP hD hS ls hl
        obtain ⟨hi, hk⟩ := hinv
        have hal1 : is = 1 → F 2 p0 = F 2 p1 := fun h => by rcases hi with h9 | h9; exact h9.2.1; exact absurd h9.1 (by omega)
        have hal2 : is = 1 → F 5 p0 = F 5 p1 := fun h => by rcases hi with h9 | h9; exact h9.2.2.1; exact absurd h9.1 (by omega)
        have hal3 : is = 1 → (F 2 p0 = 0 ∨ F 17 (F 3 p0) = F 17 (F 3 p1)) := fun h => by rcases hi with h9 | h9; exact h9.2.2.2.1; exact absurd h9.1 (by omega)
        have hal4 : is = 1 → ∀ i, 0 ≤ i → i < k → F 4 (20 * p0 + i) = F 4 (20 * p1 + i) := fun h => by rcases hi with h9 | h9; exact h9.2.2.2.2; exact absurd h9.1 (by omega)
        have hal5 : is = 0 → ¬ rs_al (F 2) (F 3) (rs_wd F) (F 17) p0 p1 := fun h => by rcases hi with h9 | h9; exact absurd h9.1 (by omega); exact h9.2
        have his : is = 0 ∨ is = 1 := by rcases hi with h9 | h9; exact Or.inr h9.1; exact Or.inl h9.1
        replace hal1 := fun (_ : Unit) => hal1
        replace hal2 := fun (_ : Unit) => hal2
        replace hal3 := fun (_ : Unit) => hal3
        replace hal4 := fun (_ : Unit) => hal4
        replace hal5 := fun (_ : Unit) => hal5
        replace hi := fun (_ : Unit) => hi
        refine lv_iload hx hb dX6_areAlike_73 (lv_at hl 0 rfl) ?_
        refine lv_aload_n hx hb dX6_areAlike_75 rfl (lv_at hl 2 rfl) ?_
        refine va_get (D := (dC, dI)) (ci := 6) (v := .ref (ma 5)) (C := RX6) (T := TX6) (N := 44) hx hb hts kt_X6 hown hK hP 0 rfl rfl 5 (by decide) (kx_word hG kq_04_msmall_15 rfl) (fun _ h9 => h9) rfl dX6_areAlike_76 ?_
        refine lv_iload_n hx hb dX6_areAlike_79 rfl (lv_at hl 3 rfl) ?_
        refine ki_iald (F := F 5) hx hb hK hP 4 3 rfl rfl (by omega) (by omega) (by decide) dX6_areAlike_80 ?_
        have hbd_4 := hB.2 5 p0
        refine ki_icmp_ge (tgt := 127) hx hb dX6_areAlike_81 (by decide) (by omega) (by omega) (by omega) (by omega) (fun c_5 => ?_) (fun c_5 => ?_)
        · skip
          refine lv_iload_n hx hb dX6_areAlike_127 rfl (lv_at hl 1 rfl) ?_
          rw [← hQe]
          exact mk_iretz hx hb hr hlocks hP hD hK hS dX6_areAlike_128 (by omega) (⟨rfl, rfl, by rcases his with h9 | h9; exact Or.inr ⟨h9, hal5 () h9⟩; exact Or.inl ⟨h9, hal1 () h9, hal3 () h9, hal2 () h9, fun i a b => hal4 () h9 i a (by omega)⟩⟩)
        · skip
          refine lv_iload_n hx hb dX6_areAlike_84 rfl (lv_at hl 1 rfl) ?_
          refine ki_if_eq (tgt := 127) hx hb dX6_areAlike_85 (by decide) (by omega) (by omega) (fun c_6 => ?_) (fun c_6 => ?_)
          · skip
            refine lv_iload_n hx hb dX6_areAlike_127 rfl (lv_at hl 1 rfl) ?_
            rw [← hQe]
            exact mk_iretz hx hb hr hlocks hP hD hK hS dX6_areAlike_128 (by omega) (⟨rfl, rfl, by rcases his with h9 | h9; exact Or.inr ⟨h9, hal5 () h9⟩; exact Or.inl ⟨h9, hal1 () h9, hal3 () h9, hal2 () h9, fun i a b => hal4 () h9 i a (by omega)⟩⟩)
          · skip
            refine lv_aload_n hx hb dX6_areAlike_88 rfl (lv_at hl 2 rfl) ?_
            refine va_get (D := (dC, dI)) (ci := 6) (v := .ref (ma 4)) (C := RX6) (T := TX6) (N := 44) hx hb hts kt_X6 hown hK hP 0 rfl rfl 4 (by decide) (kx_word hG kq_04_msmall_16 rfl) (fun _ h9 => h9) rfl dX6_areAlike_89 ?_
            refine lv_bipush (v := iz 20) hx hb dX6_areAlike_92 (by decide) ?_
            refine lv_iload_n hx hb dX6_areAlike_94 rfl (lv_at hl 3 rfl) ?_
            refine ki_imul hx hb dX6_areAlike_95 ?_
            refine lv_iload hx hb dX6_areAlike_96 (lv_at hl 0 rfl) ?_
            refine ki_iadd hx hb dX6_areAlike_98 ?_
            refine ki_iald (F := F 4) hx hb hK hP 3 2 rfl rfl (by omega) (by omega) (by decide) dX6_areAlike_99 ?_
            have hbd_7 := hB.2 4 ((20 * p0) + k)
            refine lv_aload_n hx hb dX6_areAlike_100 rfl (lv_at hl 2 rfl) ?_
            refine va_get (D := (dC, dI)) (ci := 6) (v := .ref (ma 4)) (C := RX6) (T := TX6) (N := 44) hx hb hts kt_X6 hown hK hP 0 rfl rfl 4 (by decide) (kx_word hG kq_04_msmall_16 rfl) (fun _ h9 => h9) rfl dX6_areAlike_101 ?_
            refine lv_bipush (v := iz 20) hx hb dX6_areAlike_104 (by decide) ?_
            refine lv_iload_n hx hb dX6_areAlike_106 rfl (lv_at hl 4 rfl) ?_
            refine ki_imul hx hb dX6_areAlike_107 ?_
            refine lv_iload hx hb dX6_areAlike_108 (lv_at hl 0 rfl) ?_
            refine ki_iadd hx hb dX6_areAlike_110 ?_
            refine ki_iald (F := F 4) hx hb hK hP 3 2 rfl rfl (by omega) (by omega) (by decide) dX6_areAlike_111 ?_
            have hbd_8 := hB.2 4 ((20 * p1) + k)
            refine ki_icmp_ne (tgt := 119) hx hb dX6_areAlike_112 (by decide) (by omega) (by omega) (by omega) (by omega) (fun c_9 => ?_) (fun c_9 => ?_)
            · skip
              refine lv_iconst (v := iz 0) hx hb dX6_areAlike_119 (by decide) ?_
              refine lv_istore_n (lv' := [(3, .int (iz 0)), (4, .int (iz k)), (0, .ref mo), (1, .int (iz p0)), (2, .int (iz p1))]) hx hb dX6_areAlike_120 rfl hl (by decide) rfl (fun ls hl => ?_)
              refine lv_iinc (v := iz (k + 1)) (lv' := [(4, .int (iz (k + 1))), (3, .int (iz 0)), (0, .ref mo), (1, .int (iz p0)), (2, .int (iz p1))]) hx hb dX6_areAlike_121 hl (k := 1) rfl (iz_add k 1) (by decide) rfl (fun ls hl => ?_)
              refine lv_goto (tgt := 73) hx hb dX6_areAlike_124 (by decide) ?_
              exact ih73 0 (k + 1) ⟨Or.inr ⟨rfl, fun h9 => by have h8 := h9.2.2.2 k (by omega) (by omega); omega⟩, by omega⟩ (by omega) _ _ hP hD hS ls (lv_sub hl [0, 1, 2, 3, 4] rfl)
            · skip
              refine lv_iconst (v := iz 1) hx hb dX6_areAlike_115 (by decide) ?_
              refine lv_goto (tgt := 120) hx hb dX6_areAlike_116 (by decide) ?_
              refine lv_istore_n (lv' := [(3, .int (iz 1)), (4, .int (iz k)), (0, .ref mo), (1, .int (iz p0)), (2, .int (iz p1))]) hx hb dX6_areAlike_120 rfl hl (by decide) rfl (fun ls hl => ?_)
              refine lv_iinc (v := iz (k + 1)) (lv' := [(4, .int (iz (k + 1))), (3, .int (iz 1)), (0, .ref mo), (1, .int (iz p0)), (2, .int (iz p1))]) hx hb dX6_areAlike_121 hl (k := 1) rfl (iz_add k 1) (by decide) rfl (fun ls hl => ?_)
              refine lv_goto (tgt := 73) hx hb dX6_areAlike_124 (by decide) ?_
              exact ih73 1 (k + 1) ⟨Or.inl ⟨rfl, hal1 () (by omega), hal2 () (by omega), hal3 () (by omega), fun i a b => by by_cases c9 : i = k; (rw [c9]; omega); exact hal4 () (by omega) i a (by omega)⟩, by omega⟩ (by omega) _ _ hP hD hS ls (lv_sub hl [0, 1, 2, 3, 4] rfl)
    exact lp73 _ 0 0 ⟨Or.inr ⟨rfl, fun h9 => by obtain ⟨a1, a2, a3, a4⟩ := h9; omega⟩, by omega⟩ (Nat.lt_succ_self _) _ _ hP hD hS ls (lv_sub hl [0, 1, 2, 3, 4] rfl)
  · skip
    refine lv_aload_n hx hb dX6_areAlike_15 rfl (lv_at hl 0 rfl) ?_
    refine va_get (D := (dC, dI)) (ci := 6) (v := .ref (ma 5)) (C := RX6) (T := TX6) (N := 44) hx hb hts kt_X6 hown hK hP 0 rfl rfl 5 (by decide) (kx_word hG kq_04_msmall_15 rfl) (fun _ h9 => h9) rfl dX6_areAlike_16 ?_
    refine lv_iload_n hx hb dX6_areAlike_19 rfl (lv_at hl 1 rfl) ?_
    refine ki_iald (F := F 5) hx hb hK hP 4 3 rfl rfl (by omega) (by omega) (by decide) dX6_areAlike_20 ?_
    have hbd_10 := hB.2 5 p0
    refine lv_aload_n hx hb dX6_areAlike_21 rfl (lv_at hl 0 rfl) ?_
    refine va_get (D := (dC, dI)) (ci := 6) (v := .ref (ma 5)) (C := RX6) (T := TX6) (N := 44) hx hb hts kt_X6 hown hK hP 0 rfl rfl 5 (by decide) (kx_word hG kq_04_msmall_15 rfl) (fun _ h9 => h9) rfl dX6_areAlike_22 ?_
    refine lv_iload_n hx hb dX6_areAlike_25 rfl (lv_at hl 2 rfl) ?_
    refine ki_iald (F := F 5) hx hb hK hP 4 3 rfl rfl (by omega) (by omega) (by decide) dX6_areAlike_26 ?_
    have hbd_11 := hB.2 5 p1
    refine ki_icmp_ne (tgt := 68) hx hb dX6_areAlike_27 (by decide) (by omega) (by omega) (by omega) (by omega) (fun c_12 => ?_) (fun c_12 => ?_)
    · skip
      refine lv_iconst (v := iz 0) hx hb dX6_areAlike_68 (by decide) ?_
      refine lv_istore_n (lv' := [(3, .int (iz 0)), (0, .ref mo), (1, .int (iz p0)), (2, .int (iz p1))]) hx hb dX6_areAlike_69 rfl hl (by decide) rfl (fun ls hl => ?_)
      refine lv_iconst (v := iz 0) hx hb dX6_areAlike_70 (by decide) ?_
      refine lv_istore (lv' := [(4, .int (iz 0)), (3, .int (iz 0)), (0, .ref mo), (1, .int (iz p0)), (2, .int (iz p1))]) hx hb dX6_areAlike_71 hl (by decide) rfl (fun ls hl => ?_)
      have lp73 : ∀ (n : Nat) (is k : Int), (((is = 1 ∧ F 2 p0 = F 2 p1 ∧ F 5 p0 = F 5 p1 ∧ (F 2 p0 = 0 ∨ F 17 (F 3 p0) = F 17 (F 3 p1)) ∧ ∀ i, 0 ≤ i → i < k → F 4 (20 * p0 + i) = F 4 (20 * p1 + i)) ∨ (is = 0 ∧ ¬ rs_al (F 2) (F 3) (rs_wd F) (F 17) p0 p1)) ∧ (0 ≤ k ∧ k ≤ 20)) → (F 5 p0 - k).toNat < n → ∀ (H : Heap) (locs : List Loc), va_P (dC, dI) kxCl (mW mo ma cs I F) H → va_D A (mW mo ma cs I F) → va_S A s.heap H locs → ∀ ls : Array Slot, lv_has ls 5 [(4, .int (iz k)), (3, .int (iz is)), (0, .ref mo), (1, .int (iz p0)), (2, .int (iz p1))] → W p l e (headSpec [.code yX6_areAlike cX6_areAlike 5 (some .boolean)] ({ frames := 0, cells := 0, slots := 0, locals := 0 })).room s m ([.ref mo, .int (iz p0), .int (iz p1)] : List Value).toArray below meth c H locs 0 0 QQ (F0 m 73 ls []) := by
        intro n
        induction n with
        | zero => intro is k hinv hm; exact absurd hm (Nat.not_lt_zero _)
        | succ n ih73 =>
          intro is k hinv hm H locs hP hD hS ls hl
          obtain ⟨hi, hk⟩ := hinv
          have hal1 : is = 1 → F 2 p0 = F 2 p1 := fun h => by rcases hi with h9 | h9; exact h9.2.1; exact absurd h9.1 (by omega)
          have hal2 : is = 1 → F 5 p0 = F 5 p1 := fun h => by rcases hi with h9 | h9; exact h9.2.2.1; exact absurd h9.1 (by omega)
          have hal3 : is = 1 → (F 2 p0 = 0 ∨ F 17 (F 3 p0) = F 17 (F 3 p1)) := fun h => by rcases hi with h9 | h9; exact h9.2.2.2.1; exact absurd h9.1 (by omega)
          have hal4 : is = 1 → ∀ i, 0 ≤ i → i < k → F 4 (20 * p0 + i) = F 4 (20 * p1 + i) := fun h => by rcases hi with h9 | h9; exact h9.2.2.2.2; exact absurd h9.1 (by omega)
          have hal5 : is = 0 → ¬ rs_al (F 2) (F 3) (rs_wd F) (F 17) p0 p1 := fun h => by rcases hi with h9 | h9; exact absurd h9.1 (by omega); exact h9.2
          have his : is = 0 ∨ is = 1 := by rcases hi with h9 | h9; exact Or.inr h9.1; exact Or.inl h9.1
          replace hal1 := fun (_ : Unit) => hal1
          replace hal2 := fun (_ : Unit) => hal2
          replace hal3 := fun (_ : Unit) => hal3
          replace hal4 := fun (_ : Unit) => hal4
          replace hal5 := fun (_ : Unit) => hal5
          replace hi := fun (_ : Unit) => hi
          refine lv_iload hx hb dX6_areAlike_73 (lv_at hl 0 rfl) ?_
          refine lv_aload_n hx hb dX6_areAlike_75 rfl (lv_at hl 2 rfl) ?_
          refine va_get (D := (dC, dI)) (ci := 6) (v := .ref (ma 5)) (C := RX6) (T := TX6) (N := 44) hx hb hts kt_X6 hown hK hP 0 rfl rfl 5 (by decide) (kx_word hG kq_04_msmall_15 rfl) (fun _ h9 => h9) rfl dX6_areAlike_76 ?_
          refine lv_iload_n hx hb dX6_areAlike_79 rfl (lv_at hl 3 rfl) ?_
          refine ki_iald (F := F 5) hx hb hK hP 4 3 rfl rfl (by omega) (by omega) (by decide) dX6_areAlike_80 ?_
          refine ki_icmp_ge (tgt := 127) hx hb dX6_areAlike_81 (by decide) (by omega) (by omega) (by omega) (by omega) (fun c_13 => ?_) (fun c_13 => ?_)
          · skip
            refine lv_iload_n hx hb dX6_areAlike_127 rfl (lv_at hl 1 rfl) ?_
            rw [← hQe]
            exact mk_iretz hx hb hr hlocks hP hD hK hS dX6_areAlike_128 (by omega) (⟨rfl, rfl, by rcases his with h9 | h9; exact Or.inr ⟨h9, hal5 () h9⟩; exact Or.inl ⟨h9, hal1 () h9, hal3 () h9, hal2 () h9, fun i a b => hal4 () h9 i a (by omega)⟩⟩)
          · skip
            refine lv_iload_n hx hb dX6_areAlike_84 rfl (lv_at hl 1 rfl) ?_
            refine ki_if_eq (tgt := 127) hx hb dX6_areAlike_85 (by decide) (by omega) (by omega) (fun c_14 => ?_) (fun c_14 => ?_)
            · skip
              refine lv_iload_n hx hb dX6_areAlike_127 rfl (lv_at hl 1 rfl) ?_
              rw [← hQe]
              exact mk_iretz hx hb hr hlocks hP hD hK hS dX6_areAlike_128 (by omega) (⟨rfl, rfl, by rcases his with h9 | h9; exact Or.inr ⟨h9, hal5 () h9⟩; exact Or.inl ⟨h9, hal1 () h9, hal3 () h9, hal2 () h9, fun i a b => hal4 () h9 i a (by omega)⟩⟩)
            · skip
              refine lv_aload_n hx hb dX6_areAlike_88 rfl (lv_at hl 2 rfl) ?_
              refine va_get (D := (dC, dI)) (ci := 6) (v := .ref (ma 4)) (C := RX6) (T := TX6) (N := 44) hx hb hts kt_X6 hown hK hP 0 rfl rfl 4 (by decide) (kx_word hG kq_04_msmall_16 rfl) (fun _ h9 => h9) rfl dX6_areAlike_89 ?_
              refine lv_bipush (v := iz 20) hx hb dX6_areAlike_92 (by decide) ?_
              refine lv_iload_n hx hb dX6_areAlike_94 rfl (lv_at hl 3 rfl) ?_
              refine ki_imul hx hb dX6_areAlike_95 ?_
              refine lv_iload hx hb dX6_areAlike_96 (lv_at hl 0 rfl) ?_
              refine ki_iadd hx hb dX6_areAlike_98 ?_
              refine ki_iald (F := F 4) hx hb hK hP 3 2 rfl rfl (by omega) (by omega) (by decide) dX6_areAlike_99 ?_
              have hbd_15 := hB.2 4 ((20 * p0) + k)
              refine lv_aload_n hx hb dX6_areAlike_100 rfl (lv_at hl 2 rfl) ?_
              refine va_get (D := (dC, dI)) (ci := 6) (v := .ref (ma 4)) (C := RX6) (T := TX6) (N := 44) hx hb hts kt_X6 hown hK hP 0 rfl rfl 4 (by decide) (kx_word hG kq_04_msmall_16 rfl) (fun _ h9 => h9) rfl dX6_areAlike_101 ?_
              refine lv_bipush (v := iz 20) hx hb dX6_areAlike_104 (by decide) ?_
              refine lv_iload_n hx hb dX6_areAlike_106 rfl (lv_at hl 4 rfl) ?_
              refine ki_imul hx hb dX6_areAlike_107 ?_
              refine lv_iload hx hb dX6_areAlike_108 (lv_at hl 0 rfl) ?_
              refine ki_iadd hx hb dX6_areAlike_110 ?_
              refine ki_iald (F := F 4) hx hb hK hP 3 2 rfl rfl (by omega) (by omega) (by decide) dX6_areAlike_111 ?_
              have hbd_16 := hB.2 4 ((20 * p1) + k)
              refine ki_icmp_ne (tgt := 119) hx hb dX6_areAlike_112 (by decide) (by omega) (by omega) (by omega) (by omega) (fun c_17 => ?_) (fun c_17 => ?_)
              · skip
                refine lv_iconst (v := iz 0) hx hb dX6_areAlike_119 (by decide) ?_
                refine lv_istore_n (lv' := [(3, .int (iz 0)), (4, .int (iz k)), (0, .ref mo), (1, .int (iz p0)), (2, .int (iz p1))]) hx hb dX6_areAlike_120 rfl hl (by decide) rfl (fun ls hl => ?_)
                refine lv_iinc (v := iz (k + 1)) (lv' := [(4, .int (iz (k + 1))), (3, .int (iz 0)), (0, .ref mo), (1, .int (iz p0)), (2, .int (iz p1))]) hx hb dX6_areAlike_121 hl (k := 1) rfl (iz_add k 1) (by decide) rfl (fun ls hl => ?_)
                refine lv_goto (tgt := 73) hx hb dX6_areAlike_124 (by decide) ?_
                exact ih73 0 (k + 1) ⟨Or.inr ⟨rfl, fun h9 => by have h8 := h9.2.2.2 k (by omega) (by omega); omega⟩, by omega⟩ (by omega) _ _ hP hD hS ls (lv_sub hl [0, 1, 2, 3, 4] rfl)
              · skip
                refine lv_iconst (v := iz 1) hx hb dX6_areAlike_115 (by decide) ?_
                refine lv_goto (tgt := 120) hx hb dX6_areAlike_116 (by decide) ?_
                refine lv_istore_n (lv' := [(3, .int (iz 1)), (4, .int (iz k)), (0, .ref mo), (1, .int (iz p0)), (2, .int (iz p1))]) hx hb dX6_areAlike_120 rfl hl (by decide) rfl (fun ls hl => ?_)
                refine lv_iinc (v := iz (k + 1)) (lv' := [(4, .int (iz (k + 1))), (3, .int (iz 1)), (0, .ref mo), (1, .int (iz p0)), (2, .int (iz p1))]) hx hb dX6_areAlike_121 hl (k := 1) rfl (iz_add k 1) (by decide) rfl (fun ls hl => ?_)
                refine lv_goto (tgt := 73) hx hb dX6_areAlike_124 (by decide) ?_
                exact ih73 1 (k + 1) ⟨Or.inl ⟨rfl, hal1 () (by omega), hal2 () (by omega), hal3 () (by omega), fun i a b => by by_cases c9 : i = k; (rw [c9]; omega); exact hal4 () (by omega) i a (by omega)⟩, by omega⟩ (by omega) _ _ hP hD hS ls (lv_sub hl [0, 1, 2, 3, 4] rfl)
      exact lp73 _ 0 0 ⟨Or.inr ⟨rfl, fun h9 => by obtain ⟨a1, a2, a3, a4⟩ := h9; omega⟩, by omega⟩ (Nat.lt_succ_self _) _ _ hP hD hS ls (lv_sub hl [0, 1, 2, 3, 4] rfl)
    · skip
      refine lv_aload_n hx hb dX6_areAlike_30 rfl (lv_at hl 0 rfl) ?_
      refine va_get (D := (dC, dI)) (ci := 6) (v := .ref (ma 2)) (C := RX6) (T := TX6) (N := 44) hx hb hts kt_X6 hown hK hP 0 rfl rfl 2 (by decide) (kx_word hG kq_04_msmall_12 rfl) (fun _ h9 => h9) rfl dX6_areAlike_31 ?_
      refine lv_iload_n hx hb dX6_areAlike_34 rfl (lv_at hl 1 rfl) ?_
      refine ki_iald (F := F 2) hx hb hK hP 1 0 rfl rfl (by omega) (by omega) (by decide) dX6_areAlike_35 ?_
      refine ki_if_eq (tgt := 64) hx hb dX6_areAlike_36 (by decide) (by omega) (by omega) (fun c_18 => ?_) (fun c_18 => ?_)
      · skip
        refine lv_iconst (v := iz 1) hx hb dX6_areAlike_64 (by decide) ?_
        refine lv_goto (tgt := 69) hx hb dX6_areAlike_65 (by decide) ?_
        refine lv_istore_n (lv' := [(3, .int (iz 1)), (0, .ref mo), (1, .int (iz p0)), (2, .int (iz p1))]) hx hb dX6_areAlike_69 rfl hl (by decide) rfl (fun ls hl => ?_)
        refine lv_iconst (v := iz 0) hx hb dX6_areAlike_70 (by decide) ?_
        refine lv_istore (lv' := [(4, .int (iz 0)), (3, .int (iz 1)), (0, .ref mo), (1, .int (iz p0)), (2, .int (iz p1))]) hx hb dX6_areAlike_71 hl (by decide) rfl (fun ls hl => ?_)
        have lp73 : ∀ (n : Nat) (is k : Int), (((is = 1 ∧ F 2 p0 = F 2 p1 ∧ F 5 p0 = F 5 p1 ∧ (F 2 p0 = 0 ∨ F 17 (F 3 p0) = F 17 (F 3 p1)) ∧ ∀ i, 0 ≤ i → i < k → F 4 (20 * p0 + i) = F 4 (20 * p1 + i)) ∨ (is = 0 ∧ ¬ rs_al (F 2) (F 3) (rs_wd F) (F 17) p0 p1)) ∧ (0 ≤ k ∧ k ≤ 20)) → (F 5 p0 - k).toNat < n → ∀ (H : Heap) (locs : List Loc), va_P (dC, dI) kxCl (mW mo ma cs I F) H → va_D A (mW mo ma cs I F) → va_S A s.heap H locs → ∀ ls : Array Slot, lv_has ls 5 [(4, .int (iz k)), (3, .int (iz is)), (0, .ref mo), (1, .int (iz p0)), (2, .int (iz p1))] → W p l e (headSpec [.code yX6_areAlike cX6_areAlike 5 (some .boolean)] ({ frames := 0, cells := 0, slots := 0, locals := 0 })).room s m ([.ref mo, .int (iz p0), .int (iz p1)] : List Value).toArray below meth c H locs 0 0 QQ (F0 m 73 ls []) := by
          intro n
          induction n with
          | zero => intro is k hinv hm; exact absurd hm (Nat.not_lt_zero _)
          | succ n ih73 =>
            intro is k hinv hm H locs hP hD hS ls hl
            obtain ⟨hi, hk⟩ := hinv
            have hal1 : is = 1 → F 2 p0 = F 2 p1 := fun h => by rcases hi with h9 | h9; exact h9.2.1; exact absurd h9.1 (by omega)
            have hal2 : is = 1 → F 5 p0 = F 5 p1 := fun h => by rcases hi with h9 | h9; exact h9.2.2.1; exact absurd h9.1 (by omega)
            have hal3 : is = 1 → (F 2 p0 = 0 ∨ F 17 (F 3 p0) = F 17 (F 3 p1)) := fun h => by rcases hi with h9 | h9; exact h9.2.2.2.1; exact absurd h9.1 (by omega)
            have hal4 : is = 1 → ∀ i, 0 ≤ i → i < k → F 4 (20 * p0 + i) = F 4 (20 * p1 + i) := fun h => by rcases hi with h9 | h9; exact h9.2.2.2.2; exact absurd h9.1 (by omega)
            have hal5 : is = 0 → ¬ rs_al (F 2) (F 3) (rs_wd F) (F 17) p0 p1 := fun h => by rcases hi with h9 | h9; exact absurd h9.1 (by omega); exact h9.2
            have his : is = 0 ∨ is = 1 := by rcases hi with h9 | h9; exact Or.inr h9.1; exact Or.inl h9.1
            replace hal1 := fun (_ : Unit) => hal1
            replace hal2 := fun (_ : Unit) => hal2
            replace hal3 := fun (_ : Unit) => hal3
            replace hal4 := fun (_ : Unit) => hal4
            replace hal5 := fun (_ : Unit) => hal5
            replace hi := fun (_ : Unit) => hi
            refine lv_iload hx hb dX6_areAlike_73 (lv_at hl 0 rfl) ?_
            refine lv_aload_n hx hb dX6_areAlike_75 rfl (lv_at hl 2 rfl) ?_
            refine va_get (D := (dC, dI)) (ci := 6) (v := .ref (ma 5)) (C := RX6) (T := TX6) (N := 44) hx hb hts kt_X6 hown hK hP 0 rfl rfl 5 (by decide) (kx_word hG kq_04_msmall_15 rfl) (fun _ h9 => h9) rfl dX6_areAlike_76 ?_
            refine lv_iload_n hx hb dX6_areAlike_79 rfl (lv_at hl 3 rfl) ?_
            refine ki_iald (F := F 5) hx hb hK hP 4 3 rfl rfl (by omega) (by omega) (by decide) dX6_areAlike_80 ?_
            refine ki_icmp_ge (tgt := 127) hx hb dX6_areAlike_81 (by decide) (by omega) (by omega) (by omega) (by omega) (fun c_19 => ?_) (fun c_19 => ?_)
            · skip
              refine lv_iload_n hx hb dX6_areAlike_127 rfl (lv_at hl 1 rfl) ?_
              rw [← hQe]
              exact mk_iretz hx hb hr hlocks hP hD hK hS dX6_areAlike_128 (by omega) (⟨rfl, rfl, by rcases his with h9 | h9; exact Or.inr ⟨h9, hal5 () h9⟩; exact Or.inl ⟨h9, hal1 () h9, hal3 () h9, hal2 () h9, fun i a b => hal4 () h9 i a (by omega)⟩⟩)
            · skip
              refine lv_iload_n hx hb dX6_areAlike_84 rfl (lv_at hl 1 rfl) ?_
              refine ki_if_eq (tgt := 127) hx hb dX6_areAlike_85 (by decide) (by omega) (by omega) (fun c_20 => ?_) (fun c_20 => ?_)
              · skip
                refine lv_iload_n hx hb dX6_areAlike_127 rfl (lv_at hl 1 rfl) ?_
                rw [← hQe]
                exact mk_iretz hx hb hr hlocks hP hD hK hS dX6_areAlike_128 (by omega) (⟨rfl, rfl, by rcases his with h9 | h9; exact Or.inr ⟨h9, hal5 () h9⟩; exact Or.inl ⟨h9, hal1 () h9, hal3 () h9, hal2 () h9, fun i a b => hal4 () h9 i a (by omega)⟩⟩)
              · skip
                refine lv_aload_n hx hb dX6_areAlike_88 rfl (lv_at hl 2 rfl) ?_
                refine va_get (D := (dC, dI)) (ci := 6) (v := .ref (ma 4)) (C := RX6) (T := TX6) (N := 44) hx hb hts kt_X6 hown hK hP 0 rfl rfl 4 (by decide) (kx_word hG kq_04_msmall_16 rfl) (fun _ h9 => h9) rfl dX6_areAlike_89 ?_
                refine lv_bipush (v := iz 20) hx hb dX6_areAlike_92 (by decide) ?_
                refine lv_iload_n hx hb dX6_areAlike_94 rfl (lv_at hl 3 rfl) ?_
                refine ki_imul hx hb dX6_areAlike_95 ?_
                refine lv_iload hx hb dX6_areAlike_96 (lv_at hl 0 rfl) ?_
                refine ki_iadd hx hb dX6_areAlike_98 ?_
                refine ki_iald (F := F 4) hx hb hK hP 3 2 rfl rfl (by omega) (by omega) (by decide) dX6_areAlike_99 ?_
                have hbd_21 := hB.2 4 ((20 * p0) + k)
                refine lv_aload_n hx hb dX6_areAlike_100 rfl (lv_at hl 2 rfl) ?_
                refine va_get (D := (dC, dI)) (ci := 6) (v := .ref (ma 4)) (C := RX6) (T := TX6) (N := 44) hx hb hts kt_X6 hown hK hP 0 rfl rfl 4 (by decide) (kx_word hG kq_04_msmall_16 rfl) (fun _ h9 => h9) rfl dX6_areAlike_101 ?_
                refine lv_bipush (v := iz 20) hx hb dX6_areAlike_104 (by decide) ?_
                refine lv_iload_n hx hb dX6_areAlike_106 rfl (lv_at hl 4 rfl) ?_
                refine ki_imul hx hb dX6_areAlike_107 ?_
                refine lv_iload hx hb dX6_areAlike_108 (lv_at hl 0 rfl) ?_
                refine ki_iadd hx hb dX6_areAlike_110 ?_
                refine ki_iald (F := F 4) hx hb hK hP 3 2 rfl rfl (by omega) (by omega) (by decide) dX6_areAlike_111 ?_
                have hbd_22 := hB.2 4 ((20 * p1) + k)
                refine ki_icmp_ne (tgt := 119) hx hb dX6_areAlike_112 (by decide) (by omega) (by omega) (by omega) (by omega) (fun c_23 => ?_) (fun c_23 => ?_)
                · skip
                  refine lv_iconst (v := iz 0) hx hb dX6_areAlike_119 (by decide) ?_
                  refine lv_istore_n (lv' := [(3, .int (iz 0)), (4, .int (iz k)), (0, .ref mo), (1, .int (iz p0)), (2, .int (iz p1))]) hx hb dX6_areAlike_120 rfl hl (by decide) rfl (fun ls hl => ?_)
                  refine lv_iinc (v := iz (k + 1)) (lv' := [(4, .int (iz (k + 1))), (3, .int (iz 0)), (0, .ref mo), (1, .int (iz p0)), (2, .int (iz p1))]) hx hb dX6_areAlike_121 hl (k := 1) rfl (iz_add k 1) (by decide) rfl (fun ls hl => ?_)
                  refine lv_goto (tgt := 73) hx hb dX6_areAlike_124 (by decide) ?_
                  exact ih73 0 (k + 1) ⟨Or.inr ⟨rfl, fun h9 => by have h8 := h9.2.2.2 k (by omega) (by omega); omega⟩, by omega⟩ (by omega) _ _ hP hD hS ls (lv_sub hl [0, 1, 2, 3, 4] rfl)
                · skip
                  refine lv_iconst (v := iz 1) hx hb dX6_areAlike_115 (by decide) ?_
                  refine lv_goto (tgt := 120) hx hb dX6_areAlike_116 (by decide) ?_
                  refine lv_istore_n (lv' := [(3, .int (iz 1)), (4, .int (iz k)), (0, .ref mo), (1, .int (iz p0)), (2, .int (iz p1))]) hx hb dX6_areAlike_120 rfl hl (by decide) rfl (fun ls hl => ?_)
                  refine lv_iinc (v := iz (k + 1)) (lv' := [(4, .int (iz (k + 1))), (3, .int (iz 1)), (0, .ref mo), (1, .int (iz p0)), (2, .int (iz p1))]) hx hb dX6_areAlike_121 hl (k := 1) rfl (iz_add k 1) (by decide) rfl (fun ls hl => ?_)
                  refine lv_goto (tgt := 73) hx hb dX6_areAlike_124 (by decide) ?_
                  exact ih73 1 (k + 1) ⟨Or.inl ⟨rfl, hal1 () (by omega), hal2 () (by omega), hal3 () (by omega), fun i a b => by by_cases c9 : i = k; (rw [c9]; omega); exact hal4 () (by omega) i a (by omega)⟩, by omega⟩ (by omega) _ _ hP hD hS ls (lv_sub hl [0, 1, 2, 3, 4] rfl)
        exact lp73 _ 1 0 ⟨Or.inl ⟨rfl, by omega, by omega, by omega, fun i a b => absurd b (by omega)⟩, by omega⟩ (Nat.lt_succ_self _) _ _ hP hD hS ls (lv_sub hl [0, 1, 2, 3, 4] rfl)
      · skip
        refine lv_aload_n hx hb dX6_areAlike_39 rfl (lv_at hl 0 rfl) ?_
        refine va_get (D := (dC, dI)) (ci := 6) (v := .ref (ma 17)) (C := RX6) (T := TX6) (N := 44) hx hb hts kt_X6 hown hK hP 0 rfl rfl 17 (by decide) (kx_word hG kq_06_mway_15 rfl) (fun _ h9 => h9) rfl dX6_areAlike_40 ?_
        refine lv_aload_n hx hb dX6_areAlike_43 rfl (lv_at hl 0 rfl) ?_
        refine va_get (D := (dC, dI)) (ci := 6) (v := .ref (ma 3)) (C := RX6) (T := TX6) (N := 44) hx hb hts kt_X6 hown hK hP 0 rfl rfl 3 (by decide) (kx_word hG kq_04_msmall_13 rfl) (fun _ h9 => h9) rfl dX6_areAlike_44 ?_
        refine lv_iload_n hx hb dX6_areAlike_47 rfl (lv_at hl 1 rfl) ?_
        refine ki_iald (F := F 3) hx hb hK hP 2 1 rfl rfl (by omega) (by omega) (by decide) dX6_areAlike_48 ?_
        have hbd_24 := hB.2 3 p0
        refine ki_iald (F := F 17) hx hb hK hP 13 12 rfl rfl (by omega) (by omega) (by decide) dX6_areAlike_49 ?_
        have hbd_25 := hB.2 17 (F 3 p0)
        refine lv_aload_n hx hb dX6_areAlike_50 rfl (lv_at hl 0 rfl) ?_
        refine va_get (D := (dC, dI)) (ci := 6) (v := .ref (ma 17)) (C := RX6) (T := TX6) (N := 44) hx hb hts kt_X6 hown hK hP 0 rfl rfl 17 (by decide) (kx_word hG kq_06_mway_15 rfl) (fun _ h9 => h9) rfl dX6_areAlike_51 ?_
        refine lv_aload_n hx hb dX6_areAlike_54 rfl (lv_at hl 0 rfl) ?_
        refine va_get (D := (dC, dI)) (ci := 6) (v := .ref (ma 3)) (C := RX6) (T := TX6) (N := 44) hx hb hts kt_X6 hown hK hP 0 rfl rfl 3 (by decide) (kx_word hG kq_04_msmall_13 rfl) (fun _ h9 => h9) rfl dX6_areAlike_55 ?_
        refine lv_iload_n hx hb dX6_areAlike_58 rfl (lv_at hl 2 rfl) ?_
        refine ki_iald (F := F 3) hx hb hK hP 2 1 rfl rfl (by omega) (by omega) (by decide) dX6_areAlike_59 ?_
        have hbd_26 := hB.2 3 p1
        refine ki_iald (F := F 17) hx hb hK hP 13 12 rfl rfl (by omega) (by omega) (by decide) dX6_areAlike_60 ?_
        have hbd_27 := hB.2 17 (F 3 p1)
        refine ki_icmp_ne (tgt := 68) hx hb dX6_areAlike_61 (by decide) (by omega) (by omega) (by omega) (by omega) (fun c_28 => ?_) (fun c_28 => ?_)
        · skip
          refine lv_iconst (v := iz 0) hx hb dX6_areAlike_68 (by decide) ?_
          refine lv_istore_n (lv' := [(3, .int (iz 0)), (0, .ref mo), (1, .int (iz p0)), (2, .int (iz p1))]) hx hb dX6_areAlike_69 rfl hl (by decide) rfl (fun ls hl => ?_)
          refine lv_iconst (v := iz 0) hx hb dX6_areAlike_70 (by decide) ?_
          refine lv_istore (lv' := [(4, .int (iz 0)), (3, .int (iz 0)), (0, .ref mo), (1, .int (iz p0)), (2, .int (iz p1))]) hx hb dX6_areAlike_71 hl (by decide) rfl (fun ls hl => ?_)
          have lp73 : ∀ (n : Nat) (is k : Int), (((is = 1 ∧ F 2 p0 = F 2 p1 ∧ F 5 p0 = F 5 p1 ∧ (F 2 p0 = 0 ∨ F 17 (F 3 p0) = F 17 (F 3 p1)) ∧ ∀ i, 0 ≤ i → i < k → F 4 (20 * p0 + i) = F 4 (20 * p1 + i)) ∨ (is = 0 ∧ ¬ rs_al (F 2) (F 3) (rs_wd F) (F 17) p0 p1)) ∧ (0 ≤ k ∧ k ≤ 20)) → (F 5 p0 - k).toNat < n → ∀ (H : Heap) (locs : List Loc), va_P (dC, dI) kxCl (mW mo ma cs I F) H → va_D A (mW mo ma cs I F) → va_S A s.heap H locs → ∀ ls : Array Slot, lv_has ls 5 [(4, .int (iz k)), (3, .int (iz is)), (0, .ref mo), (1, .int (iz p0)), (2, .int (iz p1))] → W p l e (headSpec [.code yX6_areAlike cX6_areAlike 5 (some .boolean)] ({ frames := 0, cells := 0, slots := 0, locals := 0 })).room s m ([.ref mo, .int (iz p0), .int (iz p1)] : List Value).toArray below meth c H locs 0 0 QQ (F0 m 73 ls []) := by
            intro n
            induction n with
            | zero => intro is k hinv hm; exact absurd hm (Nat.not_lt_zero _)
            | succ n ih73 =>
              intro is k hinv hm H locs hP hD hS ls hl
              obtain ⟨hi, hk⟩ := hinv
              have hal1 : is = 1 → F 2 p0 = F 2 p1 := fun h => by rcases hi with h9 | h9; exact h9.2.1; exact absurd h9.1 (by omega)
              have hal2 : is = 1 → F 5 p0 = F 5 p1 := fun h => by rcases hi with h9 | h9; exact h9.2.2.1; exact absurd h9.1 (by omega)
              have hal3 : is = 1 → (F 2 p0 = 0 ∨ F 17 (F 3 p0) = F 17 (F 3 p1)) := fun h => by rcases hi with h9 | h9; exact h9.2.2.2.1; exact absurd h9.1 (by omega)
              have hal4 : is = 1 → ∀ i, 0 ≤ i → i < k → F 4 (20 * p0 + i) = F 4 (20 * p1 + i) := fun h => by rcases hi with h9 | h9; exact h9.2.2.2.2; exact absurd h9.1 (by omega)
              have hal5 : is = 0 → ¬ rs_al (F 2) (F 3) (rs_wd F) (F 17) p0 p1 := fun h => by rcases hi with h9 | h9; exact absurd h9.1 (by omega); exact h9.2
              have his : is = 0 ∨ is = 1 := by rcases hi with h9 | h9; exact Or.inr h9.1; exact Or.inl h9.1
              replace hal1 := fun (_ : Unit) => hal1
              replace hal2 := fun (_ : Unit) => hal2
              replace hal3 := fun (_ : Unit) => hal3
              replace hal4 := fun (_ : Unit) => hal4
              replace hal5 := fun (_ : Unit) => hal5
              replace hi := fun (_ : Unit) => hi
              refine lv_iload hx hb dX6_areAlike_73 (lv_at hl 0 rfl) ?_
              refine lv_aload_n hx hb dX6_areAlike_75 rfl (lv_at hl 2 rfl) ?_
              refine va_get (D := (dC, dI)) (ci := 6) (v := .ref (ma 5)) (C := RX6) (T := TX6) (N := 44) hx hb hts kt_X6 hown hK hP 0 rfl rfl 5 (by decide) (kx_word hG kq_04_msmall_15 rfl) (fun _ h9 => h9) rfl dX6_areAlike_76 ?_
              refine lv_iload_n hx hb dX6_areAlike_79 rfl (lv_at hl 3 rfl) ?_
              refine ki_iald (F := F 5) hx hb hK hP 4 3 rfl rfl (by omega) (by omega) (by decide) dX6_areAlike_80 ?_
              refine ki_icmp_ge (tgt := 127) hx hb dX6_areAlike_81 (by decide) (by omega) (by omega) (by omega) (by omega) (fun c_29 => ?_) (fun c_29 => ?_)
              · skip
                refine lv_iload_n hx hb dX6_areAlike_127 rfl (lv_at hl 1 rfl) ?_
                rw [← hQe]
                exact mk_iretz hx hb hr hlocks hP hD hK hS dX6_areAlike_128 (by omega) (⟨rfl, rfl, by rcases his with h9 | h9; exact Or.inr ⟨h9, hal5 () h9⟩; exact Or.inl ⟨h9, hal1 () h9, hal3 () h9, hal2 () h9, fun i a b => hal4 () h9 i a (by omega)⟩⟩)
              · skip
                refine lv_iload_n hx hb dX6_areAlike_84 rfl (lv_at hl 1 rfl) ?_
                refine ki_if_eq (tgt := 127) hx hb dX6_areAlike_85 (by decide) (by omega) (by omega) (fun c_30 => ?_) (fun c_30 => ?_)
                · skip
                  refine lv_iload_n hx hb dX6_areAlike_127 rfl (lv_at hl 1 rfl) ?_
                  rw [← hQe]
                  exact mk_iretz hx hb hr hlocks hP hD hK hS dX6_areAlike_128 (by omega) (⟨rfl, rfl, by rcases his with h9 | h9; exact Or.inr ⟨h9, hal5 () h9⟩; exact Or.inl ⟨h9, hal1 () h9, hal3 () h9, hal2 () h9, fun i a b => hal4 () h9 i a (by omega)⟩⟩)
                · skip
                  refine lv_aload_n hx hb dX6_areAlike_88 rfl (lv_at hl 2 rfl) ?_
                  refine va_get (D := (dC, dI)) (ci := 6) (v := .ref (ma 4)) (C := RX6) (T := TX6) (N := 44) hx hb hts kt_X6 hown hK hP 0 rfl rfl 4 (by decide) (kx_word hG kq_04_msmall_16 rfl) (fun _ h9 => h9) rfl dX6_areAlike_89 ?_
                  refine lv_bipush (v := iz 20) hx hb dX6_areAlike_92 (by decide) ?_
                  refine lv_iload_n hx hb dX6_areAlike_94 rfl (lv_at hl 3 rfl) ?_
                  refine ki_imul hx hb dX6_areAlike_95 ?_
                  refine lv_iload hx hb dX6_areAlike_96 (lv_at hl 0 rfl) ?_
                  refine ki_iadd hx hb dX6_areAlike_98 ?_
                  refine ki_iald (F := F 4) hx hb hK hP 3 2 rfl rfl (by omega) (by omega) (by decide) dX6_areAlike_99 ?_
                  have hbd_31 := hB.2 4 ((20 * p0) + k)
                  refine lv_aload_n hx hb dX6_areAlike_100 rfl (lv_at hl 2 rfl) ?_
                  refine va_get (D := (dC, dI)) (ci := 6) (v := .ref (ma 4)) (C := RX6) (T := TX6) (N := 44) hx hb hts kt_X6 hown hK hP 0 rfl rfl 4 (by decide) (kx_word hG kq_04_msmall_16 rfl) (fun _ h9 => h9) rfl dX6_areAlike_101 ?_
                  refine lv_bipush (v := iz 20) hx hb dX6_areAlike_104 (by decide) ?_
                  refine lv_iload_n hx hb dX6_areAlike_106 rfl (lv_at hl 4 rfl) ?_
                  refine ki_imul hx hb dX6_areAlike_107 ?_
                  refine lv_iload hx hb dX6_areAlike_108 (lv_at hl 0 rfl) ?_
                  refine ki_iadd hx hb dX6_areAlike_110 ?_
                  refine ki_iald (F := F 4) hx hb hK hP 3 2 rfl rfl (by omega) (by omega) (by decide) dX6_areAlike_111 ?_
                  have hbd_32 := hB.2 4 ((20 * p1) + k)
                  refine ki_icmp_ne (tgt := 119) hx hb dX6_areAlike_112 (by decide) (by omega) (by omega) (by omega) (by omega) (fun c_33 => ?_) (fun c_33 => ?_)
                  · skip
                    refine lv_iconst (v := iz 0) hx hb dX6_areAlike_119 (by decide) ?_
                    refine lv_istore_n (lv' := [(3, .int (iz 0)), (4, .int (iz k)), (0, .ref mo), (1, .int (iz p0)), (2, .int (iz p1))]) hx hb dX6_areAlike_120 rfl hl (by decide) rfl (fun ls hl => ?_)
                    refine lv_iinc (v := iz (k + 1)) (lv' := [(4, .int (iz (k + 1))), (3, .int (iz 0)), (0, .ref mo), (1, .int (iz p0)), (2, .int (iz p1))]) hx hb dX6_areAlike_121 hl (k := 1) rfl (iz_add k 1) (by decide) rfl (fun ls hl => ?_)
                    refine lv_goto (tgt := 73) hx hb dX6_areAlike_124 (by decide) ?_
                    exact ih73 0 (k + 1) ⟨Or.inr ⟨rfl, fun h9 => by have h8 := h9.2.2.2 k (by omega) (by omega); omega⟩, by omega⟩ (by omega) _ _ hP hD hS ls (lv_sub hl [0, 1, 2, 3, 4] rfl)
                  · skip
                    refine lv_iconst (v := iz 1) hx hb dX6_areAlike_115 (by decide) ?_
                    refine lv_goto (tgt := 120) hx hb dX6_areAlike_116 (by decide) ?_
                    refine lv_istore_n (lv' := [(3, .int (iz 1)), (4, .int (iz k)), (0, .ref mo), (1, .int (iz p0)), (2, .int (iz p1))]) hx hb dX6_areAlike_120 rfl hl (by decide) rfl (fun ls hl => ?_)
                    refine lv_iinc (v := iz (k + 1)) (lv' := [(4, .int (iz (k + 1))), (3, .int (iz 1)), (0, .ref mo), (1, .int (iz p0)), (2, .int (iz p1))]) hx hb dX6_areAlike_121 hl (k := 1) rfl (iz_add k 1) (by decide) rfl (fun ls hl => ?_)
                    refine lv_goto (tgt := 73) hx hb dX6_areAlike_124 (by decide) ?_
                    exact ih73 1 (k + 1) ⟨Or.inl ⟨rfl, hal1 () (by omega), hal2 () (by omega), hal3 () (by omega), fun i a b => by by_cases c9 : i = k; (rw [c9]; omega); exact hal4 () (by omega) i a (by omega)⟩, by omega⟩ (by omega) _ _ hP hD hS ls (lv_sub hl [0, 1, 2, 3, 4] rfl)
          exact lp73 _ 0 0 ⟨Or.inr ⟨rfl, fun h9 => by obtain ⟨a1, a2, a3, a4⟩ := h9; omega⟩, by omega⟩ (Nat.lt_succ_self _) _ _ hP hD hS ls (lv_sub hl [0, 1, 2, 3, 4] rfl)
        · skip
          refine lv_iconst (v := iz 1) hx hb dX6_areAlike_64 (by decide) ?_
          refine lv_goto (tgt := 69) hx hb dX6_areAlike_65 (by decide) ?_
          refine lv_istore_n (lv' := [(3, .int (iz 1)), (0, .ref mo), (1, .int (iz p0)), (2, .int (iz p1))]) hx hb dX6_areAlike_69 rfl hl (by decide) rfl (fun ls hl => ?_)
          refine lv_iconst (v := iz 0) hx hb dX6_areAlike_70 (by decide) ?_
          refine lv_istore (lv' := [(4, .int (iz 0)), (3, .int (iz 1)), (0, .ref mo), (1, .int (iz p0)), (2, .int (iz p1))]) hx hb dX6_areAlike_71 hl (by decide) rfl (fun ls hl => ?_)
          have lp73 : ∀ (n : Nat) (is k : Int), (((is = 1 ∧ F 2 p0 = F 2 p1 ∧ F 5 p0 = F 5 p1 ∧ (F 2 p0 = 0 ∨ F 17 (F 3 p0) = F 17 (F 3 p1)) ∧ ∀ i, 0 ≤ i → i < k → F 4 (20 * p0 + i) = F 4 (20 * p1 + i)) ∨ (is = 0 ∧ ¬ rs_al (F 2) (F 3) (rs_wd F) (F 17) p0 p1)) ∧ (0 ≤ k ∧ k ≤ 20)) → (F 5 p0 - k).toNat < n → ∀ (H : Heap) (locs : List Loc), va_P (dC, dI) kxCl (mW mo ma cs I F) H → va_D A (mW mo ma cs I F) → va_S A s.heap H locs → ∀ ls : Array Slot, lv_has ls 5 [(4, .int (iz k)), (3, .int (iz is)), (0, .ref mo), (1, .int (iz p0)), (2, .int (iz p1))] → W p l e (headSpec [.code yX6_areAlike cX6_areAlike 5 (some .boolean)] ({ frames := 0, cells := 0, slots := 0, locals := 0 })).room s m ([.ref mo, .int (iz p0), .int (iz p1)] : List Value).toArray below meth c H locs 0 0 QQ (F0 m 73 ls []) := by
            intro n
            induction n with
            | zero => intro is k hinv hm; exact absurd hm (Nat.not_lt_zero _)
            | succ n ih73 =>
              intro is k hinv hm H locs hP hD hS ls hl
              obtain ⟨hi, hk⟩ := hinv
              have hal1 : is = 1 → F 2 p0 = F 2 p1 := fun h => by rcases hi with h9 | h9; exact h9.2.1; exact absurd h9.1 (by omega)
              have hal2 : is = 1 → F 5 p0 = F 5 p1 := fun h => by rcases hi with h9 | h9; exact h9.2.2.1; exact absurd h9.1 (by omega)
              have hal3 : is = 1 → (F 2 p0 = 0 ∨ F 17 (F 3 p0) = F 17 (F 3 p1)) := fun h => by rcases hi with h9 | h9; exact h9.2.2.2.1; exact absurd h9.1 (by omega)
              have hal4 : is = 1 → ∀ i, 0 ≤ i → i < k → F 4 (20 * p0 + i) = F 4 (20 * p1 + i) := fun h => by rcases hi with h9 | h9; exact h9.2.2.2.2; exact absurd h9.1 (by omega)
              have hal5 : is = 0 → ¬ rs_al (F 2) (F 3) (rs_wd F) (F 17) p0 p1 := fun h => by rcases hi with h9 | h9; exact absurd h9.1 (by omega); exact h9.2
              have his : is = 0 ∨ is = 1 := by rcases hi with h9 | h9; exact Or.inr h9.1; exact Or.inl h9.1
              replace hal1 := fun (_ : Unit) => hal1
              replace hal2 := fun (_ : Unit) => hal2
              replace hal3 := fun (_ : Unit) => hal3
              replace hal4 := fun (_ : Unit) => hal4
              replace hal5 := fun (_ : Unit) => hal5
              replace hi := fun (_ : Unit) => hi
              refine lv_iload hx hb dX6_areAlike_73 (lv_at hl 0 rfl) ?_
              refine lv_aload_n hx hb dX6_areAlike_75 rfl (lv_at hl 2 rfl) ?_
              refine va_get (D := (dC, dI)) (ci := 6) (v := .ref (ma 5)) (C := RX6) (T := TX6) (N := 44) hx hb hts kt_X6 hown hK hP 0 rfl rfl 5 (by decide) (kx_word hG kq_04_msmall_15 rfl) (fun _ h9 => h9) rfl dX6_areAlike_76 ?_
              refine lv_iload_n hx hb dX6_areAlike_79 rfl (lv_at hl 3 rfl) ?_
              refine ki_iald (F := F 5) hx hb hK hP 4 3 rfl rfl (by omega) (by omega) (by decide) dX6_areAlike_80 ?_
              refine ki_icmp_ge (tgt := 127) hx hb dX6_areAlike_81 (by decide) (by omega) (by omega) (by omega) (by omega) (fun c_34 => ?_) (fun c_34 => ?_)
              · skip
                refine lv_iload_n hx hb dX6_areAlike_127 rfl (lv_at hl 1 rfl) ?_
                rw [← hQe]
                exact mk_iretz hx hb hr hlocks hP hD hK hS dX6_areAlike_128 (by omega) (⟨rfl, rfl, by rcases his with h9 | h9; exact Or.inr ⟨h9, hal5 () h9⟩; exact Or.inl ⟨h9, hal1 () h9, hal3 () h9, hal2 () h9, fun i a b => hal4 () h9 i a (by omega)⟩⟩)
              · skip
                refine lv_iload_n hx hb dX6_areAlike_84 rfl (lv_at hl 1 rfl) ?_
                refine ki_if_eq (tgt := 127) hx hb dX6_areAlike_85 (by decide) (by omega) (by omega) (fun c_35 => ?_) (fun c_35 => ?_)
                · skip
                  refine lv_iload_n hx hb dX6_areAlike_127 rfl (lv_at hl 1 rfl) ?_
                  rw [← hQe]
                  exact mk_iretz hx hb hr hlocks hP hD hK hS dX6_areAlike_128 (by omega) (⟨rfl, rfl, by rcases his with h9 | h9; exact Or.inr ⟨h9, hal5 () h9⟩; exact Or.inl ⟨h9, hal1 () h9, hal3 () h9, hal2 () h9, fun i a b => hal4 () h9 i a (by omega)⟩⟩)
                · skip
                  refine lv_aload_n hx hb dX6_areAlike_88 rfl (lv_at hl 2 rfl) ?_
                  refine va_get (D := (dC, dI)) (ci := 6) (v := .ref (ma 4)) (C := RX6) (T := TX6) (N := 44) hx hb hts kt_X6 hown hK hP 0 rfl rfl 4 (by decide) (kx_word hG kq_04_msmall_16 rfl) (fun _ h9 => h9) rfl dX6_areAlike_89 ?_
                  refine lv_bipush (v := iz 20) hx hb dX6_areAlike_92 (by decide) ?_
                  refine lv_iload_n hx hb dX6_areAlike_94 rfl (lv_at hl 3 rfl) ?_
                  refine ki_imul hx hb dX6_areAlike_95 ?_
                  refine lv_iload hx hb dX6_areAlike_96 (lv_at hl 0 rfl) ?_
                  refine ki_iadd hx hb dX6_areAlike_98 ?_
                  refine ki_iald (F := F 4) hx hb hK hP 3 2 rfl rfl (by omega) (by omega) (by decide) dX6_areAlike_99 ?_
                  have hbd_36 := hB.2 4 ((20 * p0) + k)
                  refine lv_aload_n hx hb dX6_areAlike_100 rfl (lv_at hl 2 rfl) ?_
                  refine va_get (D := (dC, dI)) (ci := 6) (v := .ref (ma 4)) (C := RX6) (T := TX6) (N := 44) hx hb hts kt_X6 hown hK hP 0 rfl rfl 4 (by decide) (kx_word hG kq_04_msmall_16 rfl) (fun _ h9 => h9) rfl dX6_areAlike_101 ?_
                  refine lv_bipush (v := iz 20) hx hb dX6_areAlike_104 (by decide) ?_
                  refine lv_iload_n hx hb dX6_areAlike_106 rfl (lv_at hl 4 rfl) ?_
                  refine ki_imul hx hb dX6_areAlike_107 ?_
                  refine lv_iload hx hb dX6_areAlike_108 (lv_at hl 0 rfl) ?_
                  refine ki_iadd hx hb dX6_areAlike_110 ?_
                  refine ki_iald (F := F 4) hx hb hK hP 3 2 rfl rfl (by omega) (by omega) (by decide) dX6_areAlike_111 ?_
                  have hbd_37 := hB.2 4 ((20 * p1) + k)
                  refine ki_icmp_ne (tgt := 119) hx hb dX6_areAlike_112 (by decide) (by omega) (by omega) (by omega) (by omega) (fun c_38 => ?_) (fun c_38 => ?_)
                  · skip
                    refine lv_iconst (v := iz 0) hx hb dX6_areAlike_119 (by decide) ?_
                    refine lv_istore_n (lv' := [(3, .int (iz 0)), (4, .int (iz k)), (0, .ref mo), (1, .int (iz p0)), (2, .int (iz p1))]) hx hb dX6_areAlike_120 rfl hl (by decide) rfl (fun ls hl => ?_)
                    refine lv_iinc (v := iz (k + 1)) (lv' := [(4, .int (iz (k + 1))), (3, .int (iz 0)), (0, .ref mo), (1, .int (iz p0)), (2, .int (iz p1))]) hx hb dX6_areAlike_121 hl (k := 1) rfl (iz_add k 1) (by decide) rfl (fun ls hl => ?_)
                    refine lv_goto (tgt := 73) hx hb dX6_areAlike_124 (by decide) ?_
                    exact ih73 0 (k + 1) ⟨Or.inr ⟨rfl, fun h9 => by have h8 := h9.2.2.2 k (by omega) (by omega); omega⟩, by omega⟩ (by omega) _ _ hP hD hS ls (lv_sub hl [0, 1, 2, 3, 4] rfl)
                  · skip
                    refine lv_iconst (v := iz 1) hx hb dX6_areAlike_115 (by decide) ?_
                    refine lv_goto (tgt := 120) hx hb dX6_areAlike_116 (by decide) ?_
                    refine lv_istore_n (lv' := [(3, .int (iz 1)), (4, .int (iz k)), (0, .ref mo), (1, .int (iz p0)), (2, .int (iz p1))]) hx hb dX6_areAlike_120 rfl hl (by decide) rfl (fun ls hl => ?_)
                    refine lv_iinc (v := iz (k + 1)) (lv' := [(4, .int (iz (k + 1))), (3, .int (iz 1)), (0, .ref mo), (1, .int (iz p0)), (2, .int (iz p1))]) hx hb dX6_areAlike_121 hl (k := 1) rfl (iz_add k 1) (by decide) rfl (fun ls hl => ?_)
                    refine lv_goto (tgt := 73) hx hb dX6_areAlike_124 (by decide) ?_
                    exact ih73 1 (k + 1) ⟨Or.inl ⟨rfl, hal1 () (by omega), hal2 () (by omega), hal3 () (by omega), fun i a b => by by_cases c9 : i = k; (rw [c9]; omega); exact hal4 () (by omega) i a (by omega)⟩, by omega⟩ (by omega) _ _ hP hD hS ls (lv_sub hl [0, 1, 2, 3, 4] rfl)
          exact lp73 _ 1 0 ⟨Or.inl ⟨rfl, by omega, by omega, by omega, fun i a b => absurd b (by omega)⟩, by omega⟩ (Nat.lt_succ_self _) _ _ hP hD hS ls (lv_sub hl [0, 1, 2, 3, 4] rfl)
set_option maxHeartbeats 4000000 in
set_option maxRecDepth 100000 in
theorem k_wayOf2 (l : Launch) (dC : Nat → ClassId) (dI : Nat → Nat → Nat) (mo : Nat) (ma : Nat → Nat) (cs : Nat → ClassId) (I : Nat → Int) (F : Nat → Int → Int) (p0 : Int) (lev : Int) (nn : Int) (sz : Nat) (hB : mB I F) (hc : 0 ≤ I 1 ∧ I 1 ≤ 64) (hlv : mLv I F) (hsm : mSm nn F) (h0 : 0 ≤ p0 ∧ p0 < I 1 ∧ p0 ≤ nn) (hle : 0 ≤ lev ∧ lev ≤ 3) : mMi l yX6_wayOf (.code yX6_wayOf cX6_wayOf 4 (some .int)) 0 0 dC dI mo ma cs I F [.ref mo, .int (iz p0), .int (iz lev)] sz (fun (r : Int) (I' : Nat → Int) (F' : Nat → Int → Int) => I = I' ∧ F = F' ∧ (((r = -1 ∨ (0 ≤ r ∧ r < I 1 ∧ r ≤ nn ∧ F 2 r = lev)) ∧ (lev = 0 → 0 ≤ r)) ∧ r = rs_w (F 2) (F 3) (F 17) p0 lev)) := by
  refine Met.ofW (cc := cX6_wayOf) (maxL := 4) (ret := (some .int)) (by decide) rfl ?_
  intro p e s m args below meth c s₁ B hml hv
  obtain ⟨rfl, hsz, hP, hK, hD0, hG, hZ⟩ := hv
  have hx := B.exec
  have hb := B.bytes
  have hr := B.returns
  have hts := kx_hts (a := ([.ref mo, .int (iz p0), .int (iz lev)] : List Value).toArray) hG
  have hown : s.vm.findClass RX6 = some m.cls := findClass_of_methodNamed B.named
  have hlocks := B.notSynchronized
  subst hsz
  have hD := hD0.self (sz := s.heap.size)
  generalize hAe : va_A (mW mo ma cs I F) s.heap.size = A at hD hZ ⊢
  have hA : ∀ q : Nat, s.heap.size ≤ q → A q := fun q h => by rw [← hAe]; exact Or.inr h
  have hS : va_S A s.heap s.heap [] := va_S.rf
  have hl := lv_entry ([.ref mo, .int (iz p0), .int (iz lev)]) (n := 4) (Nat.le_of_ble_eq_true rfl)
  rw [lg_entry_eq]
  generalize (lg_sl ([.ref mo, .int (iz p0), .int (iz lev)]) ++ List.replicate (4 - (lg_sl ([.ref mo, .int (iz p0), .int (iz lev)])).length) Slot.unset).toArray = ls at hl ⊢
  have hl : lv_has ls 4 [(0, .ref mo), (1, .int (iz p0)), (2, .int (iz lev))] := hl
  generalize hQe : MQ below (mQi dC dI mo ma cs A (fun (r : Int) (I' : Nat → Int) (F' : Nat → Int → Int) => I = I' ∧ F = F' ∧ (((r = -1 ∨ (0 ≤ r ∧ r < I 1 ∧ r ≤ nn ∧ F 2 r = lev)) ∧ (lev = 0 → 0 ≤ r)) ∧ r = rs_w (F 2) (F 3) (F 17) p0 lev))) ([.ref mo, .int (iz p0), .int (iz lev)] : List Value).toArray s 0 0 A = QQ
  refine lv_iload_n hx hb dX6_wayOf_0 rfl (lv_at hl 1 rfl) ?_
  refine lv_istore_n (lv' := [(3, .int (iz p0)), (0, .ref mo), (1, .int (iz p0)), (2, .int (iz lev))]) hx hb dX6_wayOf_1 rfl hl (by decide) rfl (fun ls hl => ?_)
  have lp2 : ∀ (n : Nat) (ax : Int), ((0 ≤ ax ∧ ax < I 1 ∧ ax ≤ nn) ∧ (rs_w (F 2) (F 3) (F 17) p0 lev = rs_w (F 2) (F 3) (F 17) ax lev)) → (F 2 ax).toNat < n → ∀ (H : Heap) (locs : List Loc), va_P (dC, dI) kxCl (mW mo ma cs I F) H → va_D A (mW mo ma cs I F) → va_S A s.heap H locs → ∀ ls : Array Slot, lv_has ls 4 [(3, .int (iz ax)), (0, .ref mo), (1, .int (iz p0)), (2, .int (iz lev))] → W p l e (headSpec [.code yX6_wayOf cX6_wayOf 4 (some .int)] ({ frames := 0, cells := 0, slots := 0, locals := 0 })).room s m ([.ref mo, .int (iz p0), .int (iz lev)] : List Value).toArray below meth c H locs 0 0 QQ (F0 m 2 ls []) := by
    intro n
    induction n with
    | zero => intro ax hinv hm; exact absurd hm (Nat.not_lt_zero _)
    | succ n ih2 =>
      intro ax hinv hm H locs hP hD hS ls hl
      obtain ⟨hax, hwx⟩ := hinv
      have hlva := hlv ax (by omega) (by omega)
      refine lv_aload_n hx hb dX6_wayOf_2 rfl (lv_at hl 1 rfl) ?_
      refine va_get (D := (dC, dI)) (ci := 6) (v := .ref (ma 2)) (C := RX6) (T := TX6) (N := 44) hx hb hts kt_X6 hown hK hP 0 rfl rfl 2 (by decide) (kx_word hG kq_04_msmall_12 rfl) (fun _ h9 => h9) rfl dX6_wayOf_3 ?_
      refine lv_iload_n hx hb dX6_wayOf_6 rfl (lv_at hl 0 rfl) ?_
      refine ki_iald (F := F 2) hx hb hK hP 1 0 rfl rfl (by omega) (by omega) (by decide) dX6_wayOf_7 ?_
      have hbd_1 := hB.2 2 ax
      refine lv_iload_n hx hb dX6_wayOf_8 rfl (lv_at hl 3 rfl) ?_
      refine ki_icmp_le (tgt := 27) hx hb dX6_wayOf_9 (by decide) (by omega) (by omega) (by omega) (by omega) (fun c_2 => ?_) (fun c_2 => ?_)
      · skip
        refine lv_aload_n hx hb dX6_wayOf_27 rfl (lv_at hl 1 rfl) ?_
        refine va_get (D := (dC, dI)) (ci := 6) (v := .ref (ma 2)) (C := RX6) (T := TX6) (N := 44) hx hb hts kt_X6 hown hK hP 0 rfl rfl 2 (by decide) (kx_word hG kq_04_msmall_12 rfl) (fun _ h9 => h9) rfl dX6_wayOf_28 ?_
        refine lv_iload_n hx hb dX6_wayOf_31 rfl (lv_at hl 0 rfl) ?_
        refine ki_iald (F := F 2) hx hb hK hP 1 0 rfl rfl (by omega) (by omega) (by decide) dX6_wayOf_32 ?_
        refine lv_iload_n hx hb dX6_wayOf_33 rfl (lv_at hl 3 rfl) ?_
        refine ki_icmp_ne (tgt := 41) hx hb dX6_wayOf_34 (by decide) (by omega) (by omega) (by omega) (by omega) (fun c_3 => ?_) (fun c_3 => ?_)
        · skip
          refine lv_iconst (v := iz (-1)) hx hb dX6_wayOf_41 (by decide) ?_
          rw [← hQe]
          exact mk_ireti hx hb hr hlocks hP hD hK hS dX6_wayOf_42 (⟨rfl, rfl, by omega, by rw [hwx, rs_w_low (by omega)]⟩)
        · skip
          refine lv_iload_n hx hb dX6_wayOf_37 rfl (lv_at hl 0 rfl) ?_
          refine lv_goto (tgt := 42) hx hb dX6_wayOf_38 (by decide) ?_
          rw [← hQe]
          exact mk_ireti hx hb hr hlocks hP hD hK hS dX6_wayOf_42 (⟨rfl, rfl, by omega, by rw [hwx, rs_w_is (by omega)]⟩)
      · skip
        refine lv_aload_n hx hb dX6_wayOf_12 rfl (lv_at hl 1 rfl) ?_
        refine va_get (D := (dC, dI)) (ci := 6) (v := .ref (ma 17)) (C := RX6) (T := TX6) (N := 44) hx hb hts kt_X6 hown hK hP 0 rfl rfl 17 (by decide) (kx_word hG kq_06_mway_15 rfl) (fun _ h9 => h9) rfl dX6_wayOf_13 ?_
        refine lv_aload_n hx hb dX6_wayOf_16 rfl (lv_at hl 1 rfl) ?_
        refine va_get (D := (dC, dI)) (ci := 6) (v := .ref (ma 3)) (C := RX6) (T := TX6) (N := 44) hx hb hts kt_X6 hown hK hP 0 rfl rfl 3 (by decide) (kx_word hG kq_04_msmall_13 rfl) (fun _ h9 => h9) rfl dX6_wayOf_17 ?_
        refine lv_iload_n hx hb dX6_wayOf_20 rfl (lv_at hl 0 rfl) ?_
        refine ki_iald (F := F 3) hx hb hK hP 2 1 rfl rfl (by omega) (by omega) (by decide) dX6_wayOf_21 ?_
        have hbd_4 := hB.2 3 ax
        refine ki_iald (F := F 17) hx hb hK hP 13 12 rfl rfl (by omega) (by omega) (by decide) dX6_wayOf_22 ?_
        have hbd_5 := hB.2 17 (F 3 ax)
        have hsa := hsm (F 3 ax) (by omega) (by omega)
        have hws : rs_w (F 2) (F 3) (F 17) ax lev = rs_w (F 2) (F 3) (F 17) (F 17 (F 3 ax)) lev := rs_w_step (by omega) (by omega) (by omega)
        refine lv_istore_n (lv' := [(3, .int (iz (F 17 (F 3 ax)))), (0, .ref mo), (1, .int (iz p0)), (2, .int (iz lev))]) hx hb dX6_wayOf_23 rfl hl (by decide) rfl (fun ls hl => ?_)
        refine lv_goto (tgt := 2) hx hb dX6_wayOf_24 (by decide) ?_
        exact ih2 (F 17 (F 3 ax)) ⟨by omega, hwx.trans hws⟩ (by omega) _ _ hP hD hS ls (lv_sub hl [0, 1, 2, 3] rfl)
  exact lp2 _ p0 ⟨by omega, rfl⟩ (Nat.lt_succ_self _) _ _ hP hD hS ls (lv_sub hl [0, 1, 2, 3] rfl)
set_option maxHeartbeats 4000000 in
set_option maxRecDepth 100000 in
theorem k_isBefore2 (l : Launch) (dC : Nat → ClassId) (dI : Nat → Nat → Nat) (mo : Nat) (ma : Nat → Nat) (cs : Nat → ClassId) (I : Nat → Int) (F : Nat → Int → Int) (p0 : Int) (p1 : Int) (nn : Int) (sz : Nat) (hB : mB I F) (hc : 0 ≤ I 1 ∧ I 1 ≤ 64) (hn : ∀ e, 0 ≤ F 5 e ∧ F 5 e ≤ 20) (hlv : mLv I F) (hsm : mSm nn F) (h0 : 0 ≤ p0 ∧ p0 < I 1 ∧ p0 ≤ nn) (h1 : 0 ≤ p1 ∧ p1 < I 1 ∧ p1 ≤ nn) (hsgs : ∀ e, 0 ≤ e → e < I 1 → kf_mSg F e) (hdg : I 14 = 0 ∨ I 14 = 1) (hwd : I 15 = 0 ∨ I 15 = 1) : mMi l yX6_isBefore (.code yX6_isBefore cX6_isBefore 7 (some .boolean)) 3 72 dC dI mo ma cs I F [.ref mo, .int (iz p0), .int (iz p1)] sz (fun (r : Int) (I' : Nat → Int) (F' : Nat → Int → Int) => I = I' ∧ mB I F' ∧ mfr [] [20, 21, 22, 23, 24] I F I F' ∧ ((r = 1 ∧ rs_bf (F 2) (F 3) (F 17) (kf_oc I F) p0 p1) ∨ (r = 0 ∧ ¬ rs_bf (F 2) (F 3) (F 17) (kf_oc I F) p0 p1))) := by
  refine Met.ofW (cc := cX6_isBefore) (maxL := 7) (ret := (some .boolean)) (by decide) rfl ?_
  intro p e s m args below meth c s₁ B hml hv
  obtain ⟨rfl, hsz, hP, hK, hD0, hG, hZ⟩ := hv
  have hx := B.exec
  have hb := B.bytes
  have hr := B.returns
  have hts := kx_hts (a := ([.ref mo, .int (iz p0), .int (iz p1)] : List Value).toArray) hG
  have hown : s.vm.findClass RX6 = some m.cls := findClass_of_methodNamed B.named
  have hlocks := B.notSynchronized
  subst hsz
  have hD := hD0.self (sz := s.heap.size)
  generalize hAe : va_A (mW mo ma cs I F) s.heap.size = A at hD hZ ⊢
  have hA : ∀ q : Nat, s.heap.size ≤ q → A q := fun q h => by rw [← hAe]; exact Or.inr h
  have hS : va_S A s.heap s.heap [] := va_S.rf
  have hl := lv_entry ([.ref mo, .int (iz p0), .int (iz p1)]) (n := 7) (Nat.le_of_ble_eq_true rfl)
  rw [lg_entry_eq]
  generalize (lg_sl ([.ref mo, .int (iz p0), .int (iz p1)]) ++ List.replicate (7 - (lg_sl ([.ref mo, .int (iz p0), .int (iz p1)])).length) Slot.unset).toArray = ls at hl ⊢
  have hl : lv_has ls 7 [(0, .ref mo), (1, .int (iz p0)), (2, .int (iz p1))] := hl
  generalize hQe : MQ below (mQi dC dI mo ma cs A (fun (r : Int) (I' : Nat → Int) (F' : Nat → Int → Int) => I = I' ∧ mB I F' ∧ mfr [] [20, 21, 22, 23, 24] I F I F' ∧ ((r = 1 ∧ rs_bf (F 2) (F 3) (F 17) (kf_oc I F) p0 p1) ∨ (r = 0 ∧ ¬ rs_bf (F 2) (F 3) (F 17) (kf_oc I F) p0 p1)))) ([.ref mo, .int (iz p0), .int (iz p1)] : List Value).toArray s 0 0 A = QQ
  refine lv_iconst (v := iz 0) hx hb dX6_isBefore_0 (by decide) ?_
  refine lv_istore_n (lv' := [(3, .int (iz 0)), (0, .ref mo), (1, .int (iz p0)), (2, .int (iz p1))]) hx hb dX6_isBefore_1 rfl hl (by decide) rfl (fun ls hl => ?_)
  have lp2 : ∀ (n : Nat) (le : Int), ((0 ≤ le ∧ le ≤ 3) ∧ (∀ l, 0 ≤ l → l < le → rs_w (F 2) (F 3) (F 17) p0 l = rs_w (F 2) (F 3) (F 17) p1 l)) → (3 - le).toNat < n → ∀ (H : Heap) (locs : List Loc), va_P (dC, dI) kxCl (mW mo ma cs I F) H → va_D A (mW mo ma cs I F) → va_S A s.heap H locs → ∀ ls : Array Slot, lv_has ls 7 [(3, .int (iz le)), (0, .ref mo), (1, .int (iz p0)), (2, .int (iz p1))] → W p l e (headSpec [.code yX6_isBefore cX6_isBefore 7 (some .boolean)] ({ frames := 3, cells := 0, slots := 0, locals := 72 })).room s m ([.ref mo, .int (iz p0), .int (iz p1)] : List Value).toArray below meth c H locs 0 0 QQ (F0 m 2 ls []) := by
    intro n
    induction n with
    | zero => intro le hinv hm; exact absurd hm (Nat.not_lt_zero _)
    | succ n ih2 =>
      intro le hinv hm H locs hP hD hS ls hl
      obtain ⟨hle, hwe⟩ := hinv
      refine lv_iload_n hx hb dX6_isBefore_2 rfl (lv_at hl 0 rfl) ?_
      refine lv_iconst (v := iz 3) hx hb dX6_isBefore_3 (by decide) ?_
      refine ki_icmp_ge (tgt := 89) hx hb dX6_isBefore_4 (by decide) (by omega) (by omega) (by omega) (by omega) (fun c_1 => ?_) (fun c_1 => ?_)
      · skip
        refine lv_iconst (v := iz 0) hx hb dX6_isBefore_89 (by decide) ?_
        rw [← hQe]
        exact mk_iretz hx hb hr hlocks hP hD hK hS dX6_isBefore_90 (by omega) (⟨rfl, hB, mfr.rf, Or.inr ⟨rfl, rs_bf_no (fun l a b => hwe l a (by omega))⟩⟩)
      · skip
        refine lv_aload_n hx hb dX6_isBefore_7 rfl (lv_at hl 1 rfl) ?_
        refine lv_iload_n hx hb dX6_isBefore_8 rfl (lv_at hl 2 rfl) ?_
        refine lv_iload_n hx hb dX6_isBefore_9 rfl (lv_at hl 0 rfl) ?_
        refine mk_calli (As := [.int (iz p0), .int (iz le)]) (rest := []) ⟨hx, hb, hml, hown, hts⟩ (k_wayOf2 l dC dI mo ma cs I F p0 le nn H.size hB hc hlv hsm h0 (by omega)) (cwV 2 hts (kx_gV kq_06_mway_16 kq_06_mway_17 kq_06_mway_18 kq_04_msmall_6 kq_06_mway_19 rfl) rfl rfl rfl (by decide +kernel) ⟨Nat.le_of_ble_eq_true rfl, Nat.le_of_ble_eq_true rfl⟩) hP hD hK hG hZ hS hA rfl hl.1 rfl (Nat.le_of_ble_eq_true rfl) dX6_isBefore_10 ⟨Nat.le_of_ble_eq_true rfl, Nat.le_of_ble_eq_true rfl⟩ (fun z_2 I_4 F_5 H locs hq_3 hP hD hS => ?_)
        try dsimp only at hq_3
        obtain ⟨rfl, rfl, hq_3⟩ := hq_3
        obtain ⟨⟨hrx, hzx⟩, hex⟩ := hq_3
        refine lv_istore (lv' := [(4, .int (iz z_2)), (3, .int (iz le)), (0, .ref mo), (1, .int (iz p0)), (2, .int (iz p1))]) hx hb dX6_isBefore_13 hl (by decide) rfl (fun ls hl => ?_)
        refine lv_aload_n hx hb dX6_isBefore_15 rfl (lv_at hl 2 rfl) ?_
        refine lv_iload_n hx hb dX6_isBefore_16 rfl (lv_at hl 4 rfl) ?_
        refine lv_iload_n hx hb dX6_isBefore_17 rfl (lv_at hl 1 rfl) ?_
        refine mk_calli (As := [.int (iz p1), .int (iz le)]) (rest := []) ⟨hx, hb, hml, hown, hts⟩ (k_wayOf2 l dC dI mo ma cs I F p1 le nn H.size hB hc hlv hsm h1 (by omega)) (cwV 2 hts (kx_gV kq_06_mway_16 kq_06_mway_17 kq_06_mway_18 kq_04_msmall_6 kq_06_mway_19 rfl) rfl rfl rfl (by decide +kernel) ⟨Nat.le_of_ble_eq_true rfl, Nat.le_of_ble_eq_true rfl⟩) hP hD hK hG hZ hS hA rfl hl.1 rfl (Nat.le_of_ble_eq_true rfl) dX6_isBefore_18 ⟨Nat.le_of_ble_eq_true rfl, Nat.le_of_ble_eq_true rfl⟩ (fun z_6 I_8 F_9 H locs hq_7 hP hD hS => ?_)
        try dsimp only at hq_7
        obtain ⟨rfl, rfl, hq_7⟩ := hq_7
        obtain ⟨⟨hry, hzy⟩, hey⟩ := hq_7
        refine lv_istore (lv' := [(5, .int (iz z_6)), (4, .int (iz z_2)), (3, .int (iz le)), (0, .ref mo), (1, .int (iz p0)), (2, .int (iz p1))]) hx hb dX6_isBefore_21 hl (by decide) rfl (fun ls hl => ?_)
        refine lv_iload hx hb dX6_isBefore_23 (lv_at hl 1 rfl) ?_
        refine lv_iload hx hb dX6_isBefore_25 (lv_at hl 0 rfl) ?_
        refine ki_icmp_eq (tgt := 83) hx hb dX6_isBefore_27 (by decide) (by omega) (by omega) (by omega) (by omega) (fun c_10 => ?_) (fun c_10 => ?_)
        · skip
          refine lv_iinc (v := iz (le + 1)) (lv' := [(3, .int (iz (le + 1))), (5, .int (iz z_6)), (4, .int (iz z_2)), (0, .ref mo), (1, .int (iz p0)), (2, .int (iz p1))]) hx hb dX6_isBefore_83 hl (k := 2) rfl (iz_add le 1) (by decide) rfl (fun ls hl => ?_)
          refine lv_goto (tgt := 2) hx hb dX6_isBefore_86 (by decide) ?_
          exact ih2 (le + 1) ⟨by omega, fun l a b => by by_cases c9 : l = le; (rw [c9, ← hex, ← hey]; omega); exact hwe l a (by omega)⟩ (by omega) _ _ hP hD hS ls (lv_sub hl [0, 3, 4, 5] rfl)
        · skip
          refine lv_iload hx hb dX6_isBefore_30 (lv_at hl 1 rfl) ?_
          refine lv_iconst (v := iz (-1)) hx hb dX6_isBefore_32 (by decide) ?_
          refine ki_icmp_ne (tgt := 40) hx hb dX6_isBefore_33 (by decide) (by omega) (by omega) (by omega) (by omega) (fun c_11 => ?_) (fun c_11 => ?_)
          · skip
            refine lv_iload hx hb dX6_isBefore_40 (lv_at hl 0 rfl) ?_
            refine lv_iconst (v := iz (-1)) hx hb dX6_isBefore_42 (by decide) ?_
            refine ki_icmp_ne (tgt := 50) hx hb dX6_isBefore_43 (by decide) (by omega) (by omega) (by omega) (by omega) (fun c_12 => ?_) (fun c_12 => ?_)
            · skip
              refine lv_aload_n hx hb dX6_isBefore_50 rfl (lv_at hl 3 rfl) ?_
              refine lv_iload hx hb dX6_isBefore_51 (lv_at hl 1 rfl) ?_
              refine lv_iload hx hb dX6_isBefore_53 (lv_at hl 0 rfl) ?_
              refine mk_calli (As := [.int (iz z_2), .int (iz z_6)]) (rest := []) ⟨hx, hb, hml, hown, hts⟩ (k_orderOf2 l dC dI mo ma cs I F z_2 z_6 H.size hB (by omega) (by omega) hn (hsgs z_2 (by omega) (by omega)) (hsgs z_6 (by omega) (by omega)) hdg hwd) (cwV 2 hts (kx_gV kq_06_mway_20 kq_06_mway_21 kq_06_mway_22 kq_04_msmall_6 kq_06_mway_23 rfl) rfl rfl rfl (by decide +kernel) ⟨Nat.le_of_ble_eq_true rfl, Nat.le_of_ble_eq_true rfl⟩) hP hD hK hG hZ hS hA rfl hl.1 rfl (Nat.le_of_ble_eq_true rfl) dX6_isBefore_55 ⟨Nat.le_of_ble_eq_true rfl, Nat.le_of_ble_eq_true rfl⟩ (fun z_13 I_15 F_16 H locs hq_14 hP hD hS => ?_)
              try dsimp only at hq_14
              obtain ⟨rfl, hB17, hf17, hr17, ho17⟩ := hq_14
              refine lv_istore (lv' := [(6, .int (iz z_13)), (5, .int (iz z_6)), (4, .int (iz z_2)), (3, .int (iz le)), (0, .ref mo), (1, .int (iz p0)), (2, .int (iz p1))]) hx hb dX6_isBefore_58 hl (by decide) rfl (fun ls hl => ?_)
              refine lv_iload hx hb dX6_isBefore_60 (lv_at hl 0 rfl) ?_
              refine ki_if_lt (tgt := 77) hx hb dX6_isBefore_62 (by decide) (by omega) (by omega) (fun c_18 => ?_) (fun c_18 => ?_)
              · skip
                refine lv_iconst (v := iz 1) hx hb dX6_isBefore_77 (by decide) ?_
                refine lv_goto (tgt := 82) hx hb dX6_isBefore_78 (by decide) ?_
                rw [← hQe]
                exact mk_iretz hx hb hr hlocks hP hD hK hS dX6_isBefore_82 (by omega) (⟨rfl, hB17, hf17, Or.inl ⟨rfl, ((rs_bf_dec (x := z_2) (y := z_6) (by omega) hwe hex hey (by omega)).trans (rs_cw_iff (o := z_13) (by omega) (fun _ _ => ho17))).mpr (by omega)⟩⟩)
              · skip
                refine lv_iload hx hb dX6_isBefore_65 (lv_at hl 0 rfl) ?_
                refine ki_if_ne (tgt := 81) hx hb dX6_isBefore_67 (by decide) (by omega) (by omega) (fun c_19 => ?_) (fun c_19 => ?_)
                · skip
                  refine lv_iconst (v := iz 0) hx hb dX6_isBefore_81 (by decide) ?_
                  rw [← hQe]
                  exact mk_iretz hx hb hr hlocks hP hD hK hS dX6_isBefore_82 (by omega) (⟨rfl, hB17, hf17, Or.inr ⟨rfl, fun h9 => absurd (((rs_bf_dec (x := z_2) (y := z_6) (by omega) hwe hex hey (by omega)).trans (rs_cw_iff (o := z_13) (by omega) (fun _ _ => ho17))).mp h9) (by omega)⟩⟩)
                · skip
                  refine lv_iload hx hb dX6_isBefore_70 (lv_at hl 2 rfl) ?_
                  refine lv_iload hx hb dX6_isBefore_72 (lv_at hl 1 rfl) ?_
                  refine ki_icmp_ge (tgt := 81) hx hb dX6_isBefore_74 (by decide) (by omega) (by omega) (by omega) (by omega) (fun c_20 => ?_) (fun c_20 => ?_)
                  · skip
                    refine lv_iconst (v := iz 0) hx hb dX6_isBefore_81 (by decide) ?_
                    rw [← hQe]
                    exact mk_iretz hx hb hr hlocks hP hD hK hS dX6_isBefore_82 (by omega) (⟨rfl, hB17, hf17, Or.inr ⟨rfl, fun h9 => absurd (((rs_bf_dec (x := z_2) (y := z_6) (by omega) hwe hex hey (by omega)).trans (rs_cw_iff (o := z_13) (by omega) (fun _ _ => ho17))).mp h9) (by omega)⟩⟩)
                  · skip
                    refine lv_iconst (v := iz 1) hx hb dX6_isBefore_77 (by decide) ?_
                    refine lv_goto (tgt := 82) hx hb dX6_isBefore_78 (by decide) ?_
                    rw [← hQe]
                    exact mk_iretz hx hb hr hlocks hP hD hK hS dX6_isBefore_82 (by omega) (⟨rfl, hB17, hf17, Or.inl ⟨rfl, ((rs_bf_dec (x := z_2) (y := z_6) (by omega) hwe hex hey (by omega)).trans (rs_cw_iff (o := z_13) (by omega) (fun _ _ => ho17))).mpr (by omega)⟩⟩)
            · skip
              refine lv_iconst (v := iz 1) hx hb dX6_isBefore_46 (by decide) ?_
              refine lv_goto (tgt := 58) hx hb dX6_isBefore_47 (by decide) ?_
              refine lv_istore (lv' := [(6, .int (iz 1)), (5, .int (iz z_6)), (4, .int (iz z_2)), (3, .int (iz le)), (0, .ref mo), (1, .int (iz p0)), (2, .int (iz p1))]) hx hb dX6_isBefore_58 hl (by decide) rfl (fun ls hl => ?_)
              refine lv_iload hx hb dX6_isBefore_60 (lv_at hl 0 rfl) ?_
              refine ki_if_lt (tgt := 77) hx hb dX6_isBefore_62 (by decide) (by omega) (by omega) (fun c_21 => ?_) (fun c_21 => ?_)
              · omega
              · skip
                refine lv_iload hx hb dX6_isBefore_65 (lv_at hl 0 rfl) ?_
                refine ki_if_ne (tgt := 81) hx hb dX6_isBefore_67 (by decide) (by omega) (by omega) (fun c_22 => ?_) (fun c_22 => ?_)
                · skip
                  refine lv_iconst (v := iz 0) hx hb dX6_isBefore_81 (by decide) ?_
                  rw [← hQe]
                  exact mk_iretz hx hb hr hlocks hP hD hK hS dX6_isBefore_82 (by omega) (⟨rfl, hB, mfr.rf, Or.inr ⟨rfl, fun h9 => absurd (((rs_bf_dec (x := z_2) (y := z_6) (by omega) hwe hex hey (by omega)).trans (rs_cw_iff (o := 0) (by omega) (fun a9 b9 => absurd (by omega) b9))).mp h9) (by omega)⟩⟩)
                · omega
          · skip
            refine lv_iconst (v := iz (-1)) hx hb dX6_isBefore_36 (by decide) ?_
            refine lv_goto (tgt := 58) hx hb dX6_isBefore_37 (by decide) ?_
            refine lv_istore (lv' := [(6, .int (iz (-1))), (5, .int (iz z_6)), (4, .int (iz z_2)), (3, .int (iz le)), (0, .ref mo), (1, .int (iz p0)), (2, .int (iz p1))]) hx hb dX6_isBefore_58 hl (by decide) rfl (fun ls hl => ?_)
            refine lv_iload hx hb dX6_isBefore_60 (lv_at hl 0 rfl) ?_
            refine ki_if_lt (tgt := 77) hx hb dX6_isBefore_62 (by decide) (by omega) (by omega) (fun c_23 => ?_) (fun c_23 => ?_)
            · skip
              refine lv_iconst (v := iz 1) hx hb dX6_isBefore_77 (by decide) ?_
              refine lv_goto (tgt := 82) hx hb dX6_isBefore_78 (by decide) ?_
              rw [← hQe]
              exact mk_iretz hx hb hr hlocks hP hD hK hS dX6_isBefore_82 (by omega) (⟨rfl, hB, mfr.rf, Or.inl ⟨rfl, ((rs_bf_dec (x := z_2) (y := z_6) (by omega) hwe hex hey (by omega)).trans (rs_cw_iff (o := 0) (by omega) (fun a9 b9 => absurd (by omega) a9))).mpr (by omega)⟩⟩)
            · omega
  exact lp2 _ 0 ⟨by omega, fun l a b => absurd b (by omega)⟩ (Nat.lt_succ_self _) _ _ hP hD hS ls (lv_sub hl [0, 1, 2, 3] rfl)
set_option maxHeartbeats 4000000 in
set_option maxRecDepth 100000 in
/-- look, exact -/
theorem k_look2 (l : Launch) (dC : Nat → ClassId) (dI : Nat → Nat → Nat) (mo : Nat) (ma : Nat → Nat) (cs : Nat → ClassId) (I : Nat → Int) (F : Nat → Int → Int) (sz : Nat) (hB : mB I F) (hc : 0 ≤ I 1 ∧ I 1 ≤ 64) (hn : ∀ e, 0 ≤ F 5 e ∧ F 5 e ≤ 20) (hlv : mLv I F) (hkn : I 16 = 1 → mSm (I 1) F ∧ (0 ≤ I 19 ∧ I 19 ≤ I 1) ∧ mRw (I 19) (I 1) F) (hk01 : I 16 = 0 ∨ I 16 = 1) (hks : mKs I F) (hL : rs_lv (F 2) (F 3) (I 1)) (hsgs : ∀ e, 0 ≤ e → e < I 1 → kf_mSg F e) (hdg : I 14 = 0 ∨ I 14 = 1) (hwd : I 15 = 0 ∨ I 15 = 1) : mMv l yX6_look (.code yX6_look cX6_look 3 none) 4 98 dC dI mo ma cs I F [.ref mo] sz (fun (I' : Nat → Int) (F' : Nat → Int → Int) => (mB I' F' ∧ mfr [16, 19] [17, 18, 20, 21, 22, 23, 24] I F I' F' ∧ I' 16 = 1 ∧ mSm (I 1) F' ∧ (0 ≤ I' 19 ∧ I' 19 ≤ I 1) ∧ mRw (I' 19) (I 1) F') ∧ mKr I' F') := by
  refine Met.ofW (cc := cX6_look) (maxL := 3) (ret := none) (by decide) rfl ?_
  intro p e s m args below meth c s₁ B hml hv
  obtain ⟨rfl, hsz, hP, hK, hD0, hG, hZ⟩ := hv
  have hx := B.exec
  have hb := B.bytes
  have hr := B.returns
  have hts := kx_hts (a := ([.ref mo] : List Value).toArray) hG
  have hown : s.vm.findClass RX6 = some m.cls := findClass_of_methodNamed B.named
  have hlocks := B.notSynchronized
  subst hsz
  have hD := hD0.self (sz := s.heap.size)
  generalize hAe : va_A (mW mo ma cs I F) s.heap.size = A at hD hZ ⊢
  have hA : ∀ q : Nat, s.heap.size ≤ q → A q := fun q h => by rw [← hAe]; exact Or.inr h
  have hS : va_S A s.heap s.heap [] := va_S.rf
  have hl := lv_entry ([.ref mo]) (n := 3) (Nat.le_of_ble_eq_true rfl)
  rw [lg_entry_eq]
  generalize (lg_sl ([.ref mo]) ++ List.replicate (3 - (lg_sl ([.ref mo])).length) Slot.unset).toArray = ls at hl ⊢
  have hl : lv_has ls 3 [(0, .ref mo)] := hl
  generalize hQe : MQ below (mQv dC dI mo ma cs A (fun (I' : Nat → Int) (F' : Nat → Int → Int) => (mB I' F' ∧ mfr [16, 19] [17, 18, 20, 21, 22, 23, 24] I F I' F' ∧ I' 16 = 1 ∧ mSm (I 1) F' ∧ (0 ≤ I' 19 ∧ I' 19 ≤ I 1) ∧ mRw (I' 19) (I 1) F') ∧ mKr I' F')) ([.ref mo] : List Value).toArray s 0 0 A = QQ
  refine lv_aload_n hx hb dX6_look_0 rfl (lv_at hl 0 rfl) ?_
  refine va_get (D := (dC, dI)) (ci := 6) (v := .int (iz (I 16))) (C := RX6) (T := TX6) (N := 44) hx hb hts kt_X6 hown hK hP 0 rfl rfl 16 (by decide) (kx_word hG kq_04_msmall_14 rfl) (fun _ h9 => h9) rfl dX6_look_1 ?_
  have hbd_1 := hB.1 16
  refine ki_if_eq (tgt := 8) hx hb dX6_look_4 (by decide) (by omega) (by omega) (fun c_2 => ?_) (fun c_2 => ?_)
  · skip
    refine lv_aload_n hx hb dX6_look_8 rfl (lv_at hl 0 rfl) ?_
    refine lv_iconst (v := iz 1) hx hb dX6_look_9 (by decide) ?_
    refine va_put (D := (dC, dI)) (ci := 6) (v := .int (iz 1)) (ty := .boolean) (C := RX6) (T := TX6) (N := 44) hx hb hts kt_X6 tyX6 tyX6_ok nmX6 hown hK hP hD hS 0 rfl rfl 16 (by decide) (kx_word hG kq_04_msmall_14 rfl) (fun _ h9 => h9) rfl (by decide +kernel) (mz_bool (Or.inr rfl)).1 (mz_bool (Or.inr rfl)).2 (Nat.le_of_ble_eq_true rfl) dX6_look_10 (fun H locs hP hD hS => ?_)
    have hP : va_P (dC, dI) kxCl (mW mo ma cs (va_up I 16 1) F) H := hP
    have hD : va_D A (mW mo ma cs (va_up I 16 1) F) := hD
    refine lv_aload_n hx hb dX6_look_13 rfl (lv_at hl 0 rfl) ?_
    refine lv_iconst (v := iz 0) hx hb dX6_look_14 (by decide) ?_
    refine va_put (D := (dC, dI)) (ci := 6) (v := .int (iz 0)) (ty := .int) (C := RX6) (T := TX6) (N := 44) hx hb hts kt_X6 tyX6 tyX6_ok nmX6 hown hK hP hD hS 0 rfl rfl 19 (by decide) (kx_word hG kq_07_mlook_0 rfl) (fun _ h9 => h9) rfl (by decide +kernel) rfl rfl (Nat.le_of_ble_eq_true rfl) dX6_look_15 (fun H locs hP hD hS => ?_)
    have hP : va_P (dC, dI) kxCl (mW mo ma cs (va_up (va_up I 16 1) 19 0) F) H := hP
    have hD : va_D A (mW mo ma cs (va_up (va_up I 16 1) 19 0) F) := hD
    refine lv_iconst (v := iz 0) hx hb dX6_look_18 (by decide) ?_
    refine lv_istore_n (lv' := [(1, .int (iz 0)), (0, .ref mo)]) hx hb dX6_look_19 rfl hl (by decide) rfl (fun ls hl => ?_)
    have lp20 : ∀ (n : Nat) (ev : Int) (J : Nat → Int) (G : Nat → Int → Int), ((mB J G) ∧ (mfr [16, 19] [17, 18, 20, 21, 22, 23, 24] I F J G) ∧ (J 16 = 1) ∧ (0 ≤ ev ∧ ev ≤ I 1) ∧ (mSm ev G) ∧ (0 ≤ J 19 ∧ J 19 ≤ ev) ∧ (mRw (J 19) ev G) ∧ (rs_P (F 2) (F 3) (rs_wd F) ev (G 17) ∧ rs_so (rs_bf (F 2) (F 3) (G 17) (kf_oc I F)) (G 18) 0 (J 19) ∧ ∀ x, rs_me (G 18) 0 (J 19) x ↔ (0 ≤ x ∧ x < ev ∧ G 17 x = x))) → (I 1 - ev).toNat < n → ∀ (H : Heap) (locs : List Loc), va_P (dC, dI) kxCl (mW mo ma cs J G) H → va_D A (mW mo ma cs J G) → va_S A s.heap H locs → ∀ ls : Array Slot, lv_has ls 3 [(1, .int (iz ev)), (0, .ref mo)] → W p l e (headSpec [.code yX6_look cX6_look 3 none] ({ frames := 4, cells := 0, slots := 0, locals := 98 })).room s m ([.ref mo] : List Value).toArray below meth c H locs 0 0 QQ (F0 m 20 ls []) := by
      intro n
      induction n with
      | zero => intro ev J G hinv hm; exact absurd hm (Nat.not_lt_zero _)
      | succ n ih20 =>
        intro ev J G hinv hm H locs hP hD hS ls hl
        obtain ⟨hBJ, hfJ, hk16, hev, hsm, hsz, hrw, hX⟩ := hinv
        have e1 := hfJ.1 1 (by decide)
        have f2 := hfJ.2 2 (by decide)
        have f3 := hfJ.2 3 (by decide)
        have f5 := hfJ.2 5 (by decide)
        obtain ⟨hPs, hso, hme⟩ := hX
        have hsk : ∀ k, 0 ≤ k → k < ev → 0 ≤ G 17 k ∧ G 17 k ≤ k ∧ F 2 (G 17 k) = F 2 k := fun k a b => ⟨(hPs k a b).1.1, (hPs k a b).1.2, rs_P_lv hPs a b⟩
        refine lv_iload_n hx hb dX6_look_20 rfl (lv_at hl 0 rfl) ?_
        refine lv_aload_n hx hb dX6_look_21 rfl (lv_at hl 1 rfl) ?_
        refine va_get (D := (dC, dI)) (ci := 6) (v := .int (iz (J 1))) (C := RX6) (T := TX6) (N := 44) hx hb hts kt_X6 hown hK hP 0 rfl rfl 1 (by decide) (kx_word hG kq_04_msmall_1 rfl) (fun _ h9 => h9) rfl dX6_look_22 ?_
        have hbd_3 := hBJ.1 1
        refine ki_icmp_ge (tgt := 162) hx hb dX6_look_25 (by decide) (by omega) (by omega) (by omega) (by omega) (fun c_4 => ?_) (fun c_4 => ?_)
        · skip
          rw [← hQe]
          exact mk_ret hx hb hr hlocks hP hD hK hS dX6_look_162 (⟨⟨hBJ, hfJ, hk16, (show ev = I 1 by omega) ▸ hsm, by omega, (show ev = I 1 by omega) ▸ hrw⟩, by have e9 : ev = I 1 := (by omega); unfold mKr; rw [f2, f3, e1, rs_wd_fr (hfJ.2 4 (by decide)) f5, kf_oc_fr (hfJ.1 14 (by decide)) (hfJ.1 15 (by decide)) (hfJ.2 4 (by decide)) f5, ← e9]; exact ⟨hPs, hso, hme⟩⟩)
        · skip
          refine lv_aload_n hx hb dX6_look_28 rfl (lv_at hl 1 rfl) ?_
          refine va_get (D := (dC, dI)) (ci := 6) (v := .ref (ma 17)) (C := RX6) (T := TX6) (N := 44) hx hb hts kt_X6 hown hK hP 0 rfl rfl 17 (by decide) (kx_word hG kq_06_mway_15 rfl) (fun _ h9 => h9) rfl dX6_look_29 ?_
          refine lv_iload_n hx hb dX6_look_32 rfl (lv_at hl 0 rfl) ?_
          refine lv_iload_n hx hb dX6_look_33 rfl (lv_at hl 0 rfl) ?_
          refine ki_iast (F := G 17) hx hb hK hP hD hS 13 12 rfl rfl (by omega) (by omega) (by decide) dX6_look_34 (fun H locs hP hD hS => ?_)
          have hP : va_P (dC, dI) kxCl (mW mo ma cs J (va_up G 17 (upI (G 17) ev ev))) H := hP
          have hD : va_D A (mW mo ma cs J (va_up G 17 (upI (G 17) ev ev))) := hD
          refine lv_iload_n hx hb dX6_look_35 rfl (lv_at hl 0 rfl) ?_
          refine lv_iconst (v := iz 1) hx hb dX6_look_36 (by decide) ?_
          refine ki_isub hx hb dX6_look_37 ?_
          refine lv_istore_n (lv' := [(2, .int (iz (ev - 1))), (1, .int (iz ev)), (0, .ref mo)]) hx hb dX6_look_38 rfl hl (by decide) rfl (fun ls hl => ?_)
          have lp39 : ∀ (n : Nat) (k : Int) (G1 : Nat → Int → Int), ((mB J G1) ∧ (mfr [] [17] J G J G1) ∧ (∀ j, j ≠ ev → G1 17 j = G 17 j) ∧ (0 ≤ G1 17 ev ∧ G1 17 ev ≤ ev ∧ G1 2 (G1 17 ev) = G1 2 ev) ∧ (-1 ≤ k ∧ k < ev) ∧ (G1 17 ev = ev ∨ (k < G1 17 ev ∧ G1 17 ev < ev ∧ G 17 (G1 17 ev) = G1 17 ev ∧ rs_al (F 2) (F 3) (rs_wd F) (G 17) ev (G1 17 ev))) ∧ (∀ j, k < j → j < G1 17 ev → ¬ (G 17 j = j ∧ rs_al (F 2) (F 3) (rs_wd F) (G 17) ev j))) → (k + 1).toNat < n → ∀ (H : Heap) (locs : List Loc), va_P (dC, dI) kxCl (mW mo ma cs J G1) H → va_D A (mW mo ma cs J G1) → va_S A s.heap H locs → ∀ ls : Array Slot, lv_has ls 3 [(2, .int (iz k)), (1, .int (iz ev)), (0, .ref mo)] → W p l e (headSpec [.code yX6_look cX6_look 3 none] ({ frames := 4, cells := 0, slots := 0, locals := 98 })).room s m ([.ref mo] : List Value).toArray below meth c H locs 0 0 QQ (F0 m 39 ls []) := by
            intro n
            induction n with
            | zero => intro k G1 hinv hm; exact absurd hm (Nat.not_lt_zero _)
            | succ n ih39 =>
              intro k G1 hinv hm H locs hP hD hS ls hl
              obtain ⟨hB1, hf1, ho1, hv1, hk, hv3, hv4⟩ := hinv
              have a2 := congrFun (hf1.2 2 (by decide)) ev
              have a3 := congrFun (hf1.2 3 (by decide)) ev
              have b2 := congrFun f2 ev
              have b3 := congrFun f3 ev
              have a2k := congrFun (hf1.2 2 (by decide)) k
              have a3k := congrFun (hf1.2 3 (by decide)) k
              have b2k := congrFun f2 k
              have b3k := congrFun f3 k
              have hlve := hlv ev (by omega) (by omega)
              replace hv3 := fun (_ : Unit) => hv3
              refine lv_iload_n hx hb dX6_look_39 rfl (lv_at hl 0 rfl) ?_
              refine ki_if_lt (tgt := 84) hx hb dX6_look_40 (by decide) (by omega) (by omega) (fun c_5 => ?_) (fun c_5 => ?_)
              · skip
                have hPn : rs_P (F 2) (F 3) (rs_wd F) (ev + 1) (G1 17) := rs_P_add hL hPs (by omega) ho1 (by omega) (by rcases hv3 () with h9 | h9; exact Or.inl h9; exact Or.inr h9.2) (fun j a b => hv4 j (by omega) b)
                refine lv_aload_n hx hb dX6_look_84 rfl (lv_at hl 2 rfl) ?_
                refine va_get (D := (dC, dI)) (ci := 6) (v := .ref (ma 17)) (C := RX6) (T := TX6) (N := 44) hx hb hts kt_X6 hown hK hP 0 rfl rfl 17 (by decide) (kx_word hG kq_06_mway_15 rfl) (fun _ h9 => h9) rfl dX6_look_85 ?_
                refine lv_iload_n hx hb dX6_look_88 rfl (lv_at hl 1 rfl) ?_
                refine ki_iald (F := G1 17) hx hb hK hP 13 12 rfl rfl (by omega) (by omega) (by decide) dX6_look_89 ?_
                have hbd_6 := hB1.2 17 ev
                refine lv_iload_n hx hb dX6_look_90 rfl (lv_at hl 1 rfl) ?_
                refine ki_icmp_ne (tgt := 156) hx hb dX6_look_91 (by decide) (by omega) (by omega) (by omega) (by omega) (fun c_7 => ?_) (fun c_7 => ?_)
                · skip
                  refine lv_iinc (v := iz (ev + 1)) (lv' := [(1, .int (iz (ev + 1))), (2, .int (iz k)), (0, .ref mo)]) hx hb dX6_look_156 hl (k := 1) rfl (iz_add ev 1) (by decide) rfl (fun ls hl => ?_)
                  refine lv_goto (tgt := 20) hx hb dX6_look_159 (by decide) ?_
                  exact ih20 (ev + 1) J G1 ⟨hB1, hfJ.tr (hf1.mono (by decide) (by decide)), hk16, by omega, mSm.add hsm (hf1.2 2 (by decide)) ho1 hv1, by omega, fun i a b => by have h9 := hrw i a b; rw [hf1.2 18 (by decide)]; omega, (by rw [show G1 18 = G 18 from hf1.2 18 (by decide)]; exact ⟨hPn, fun i j a b c => (rs_bf_cg hL (fun k9 a9 b9 => (ho1 k9 (by omega)).symm) hsk (by have q9 := (hme _).mp ⟨i, a, by omega, rfl⟩; omega) (by have q9 := (hme _).mp ⟨j, by omega, c, rfl⟩; omega) (by omega)).mp (hso i j a b c), fun x => (hme x).trans ⟨fun h9 => ⟨h9.1, by omega, by rw [ho1 x (by omega)]; exact h9.2.2⟩, fun h9 => by by_cases c9 : x = ev; (rw [c9] at h9; exact absurd h9.2.2 (show ¬ G1 17 ev = ev by omega)); exact ⟨h9.1, by omega, by rw [← ho1 x c9]; exact h9.2.2⟩⟩⟩)⟩ (by omega) _ _ hP hD hS ls (lv_sub hl [0, 2] rfl)
                · skip
                  refine lv_aload_n hx hb dX6_look_94 rfl (lv_at hl 2 rfl) ?_
                  refine va_get (D := (dC, dI)) (ci := 6) (v := .int (iz (J 19))) (C := RX6) (T := TX6) (N := 44) hx hb hts kt_X6 hown hK hP 0 rfl rfl 19 (by decide) (kx_word hG kq_07_mlook_0 rfl) (fun _ h9 => h9) rfl dX6_look_95 ?_
                  have hbd_8 := hB1.1 19
                  refine lv_istore_n (lv' := [(2, .int (iz (J 19))), (1, .int (iz ev)), (0, .ref mo)]) hx hb dX6_look_98 rfl hl (by decide) rfl (fun ls hl => ?_)
                  have lp99 : ∀ (n : Nat) (ap : Int) (G2 : Nat → Int → Int), ((mB J G2) ∧ (mfr [] [18, 20, 21, 22, 23, 24] J G1 J G2) ∧ (0 ≤ ap ∧ ap ≤ J 19) ∧ (∀ i, 0 ≤ i → i < J 19 → 0 ≤ G2 18 i ∧ G2 18 i < ev) ∧ (ap < J 19 → 0 ≤ G2 18 (J 19) ∧ G2 18 (J 19) < ev) ∧ (∀ j, 0 ≤ j → j < ap → G2 18 j = G 18 j) ∧ (∀ j, ap < j → j ≤ J 19 → G2 18 j = G 18 (j - 1)) ∧ (∀ j, ap ≤ j → j < J 19 → (rs_bf (F 2) (F 3) (G1 17) (kf_oc I F)) ev (G 18 j))) → (ap).toNat < n → ∀ (H : Heap) (locs : List Loc), va_P (dC, dI) kxCl (mW mo ma cs J G2) H → va_D A (mW mo ma cs J G2) → va_S A s.heap H locs → ∀ ls : Array Slot, lv_has ls 3 [(2, .int (iz ap)), (1, .int (iz ev)), (0, .ref mo)] → W p l e (headSpec [.code yX6_look cX6_look 3 none] ({ frames := 4, cells := 0, slots := 0, locals := 98 })).room s m ([.ref mo] : List Value).toArray below meth c H locs 0 0 QQ (F0 m 99 ls []) := by
                    intro n
                    induction n with
                    | zero => intro ap G2 hinv hm; exact absurd hm (Nat.not_lt_zero _)
                    | succ n ih99 =>
                      intro ap G2 hinv hm H locs hP hD hS ls hl
                      obtain ⟨hB2, hf2, hap, hr2, hr3, hg1, hg3, hgr⟩ := hinv
                      refine lv_iload_n hx hb dX6_look_99 rfl (lv_at hl 0 rfl) ?_
                      refine ki_if_le (tgt := 139) hx hb dX6_look_100 (by decide) (by omega) (by omega) (fun c_9 => ?_) (fun c_9 => ?_)
                      · skip
                        refine lv_aload_n hx hb dX6_look_139 rfl (lv_at hl 2 rfl) ?_
                        refine va_get (D := (dC, dI)) (ci := 6) (v := .ref (ma 18)) (C := RX6) (T := TX6) (N := 44) hx hb hts kt_X6 hown hK hP 0 rfl rfl 18 (by decide) (kx_word hG kq_07_mlook_1 rfl) (fun _ h9 => h9) rfl dX6_look_140 ?_
                        refine lv_iload_n hx hb dX6_look_143 rfl (lv_at hl 0 rfl) ?_
                        refine lv_iload_n hx hb dX6_look_144 rfl (lv_at hl 1 rfl) ?_
                        refine ki_iast (F := G2 18) hx hb hK hP hD hS 14 13 rfl rfl (by omega) (by omega) (by decide) dX6_look_145 (fun H locs hP hD hS => ?_)
                        have hP : va_P (dC, dI) kxCl (mW mo ma cs J (va_up G2 18 (upI (G2 18) ap ev))) H := hP
                        have hD : va_D A (mW mo ma cs J (va_up G2 18 (upI (G2 18) ap ev))) := hD
                        refine lv_aload_n hx hb dX6_look_146 rfl (lv_at hl 2 rfl) ?_
                        refine lv_dup hx hb dX6_look_147 rfl ?_
                        refine va_get (D := (dC, dI)) (ci := 6) (v := .int (iz (J 19))) (C := RX6) (T := TX6) (N := 44) hx hb hts kt_X6 hown hK hP 0 rfl rfl 19 (by decide) (kx_word hG kq_07_mlook_0 rfl) (fun _ h9 => h9) rfl dX6_look_148 ?_
                        have hbd_10 := hB2.1 19
                        refine lv_iconst (v := iz 1) hx hb dX6_look_151 (by decide) ?_
                        refine ki_iadd hx hb dX6_look_152 ?_
                        refine va_put (D := (dC, dI)) (ci := 6) (v := .int (iz ((J 19) + 1))) (ty := .int) (C := RX6) (T := TX6) (N := 44) hx hb hts kt_X6 tyX6 tyX6_ok nmX6 hown hK hP hD hS 0 rfl rfl 19 (by decide) (kx_word hG kq_07_mlook_0 rfl) (fun _ h9 => h9) rfl (by decide +kernel) rfl rfl (Nat.le_of_ble_eq_true rfl) dX6_look_153 (fun H locs hP hD hS => ?_)
                        have hP : va_P (dC, dI) kxCl (mW mo ma cs (va_up J 19 ((J 19) + 1)) (va_up G2 18 (upI (G2 18) ap ev))) H := hP
                        have hD : va_D A (mW mo ma cs (va_up J 19 ((J 19) + 1)) (va_up G2 18 (upI (G2 18) ap ev))) := hD
                        refine lv_iinc (v := iz (ev + 1)) (lv' := [(1, .int (iz (ev + 1))), (2, .int (iz ap)), (0, .ref mo)]) hx hb dX6_look_156 hl (k := 1) rfl (iz_add ev 1) (by decide) rfl (fun ls hl => ?_)
                        refine lv_goto (tgt := 20) hx hb dX6_look_159 (by decide) ?_
                        exact ih20 (ev + 1) (va_up J 19 ((J 19) + 1)) (va_up G2 18 (upI (G2 18) ap ev)) ⟨(mB_f (mB_i hB2 19 (by omega) (by omega)) 18 ap (by omega) (by omega)), mfr.upI (k := 19) (hfJ.tr ((hf1.mono (by decide) (by decide)).tr ((mfr.upF hf2 (k := 18) (by decide) _).mono (by decide) (by decide)))) (by decide) _, hk16, by omega, mSm.fr (mSm.add hsm (hf1.2 2 (by decide)) ho1 hv1) (show (va_up G2 18 (upI (G2 18) ap ev)) 17 = G1 17 from hf2.2 17 (by decide)) (show (va_up G2 18 (upI (G2 18) ap ev)) 2 = G1 2 from hf2.2 2 (by decide)), by have e9 : (va_up J 19 ((J 19) + 1)) 19 = J 19 + 1 := va_up_self _ _ _; omega, by have e9 : (va_up J 19 ((J 19) + 1)) 19 = J 19 + 1 := va_up_self _ _ _; rw [e9]; exact mRw.up (n := 0) (hi := ev) (i0 := ap) (v := ev) (F := G2) (fun i a b c9 => if h9 : i < J 19 then hr2 i a h9 else (by rw [show i = J 19 by omega]; exact hr3 (by omega))) rfl (by omega) (by omega), (by rw [(show (va_up G2 18 (upI (G2 18) ap ev)) 17 = G1 17 from hf2.2 17 (by decide)), (show (va_up G2 18 (upI (G2 18) ap ev)) 18 = upI (G2 18) ap ev from rfl), (show (va_up J 19 ((J 19) + 1)) 19 = J 19 + 1 from va_up_self _ _ _)]; exact ⟨hPn, rs_rows_add (kf_oc_cm I F) hL (by omega) hsk ho1 hso hme (by omega) (fun j a b => (upI_ne _ _ (by omega)).trans (hg1 j a b)) (upI_self _ _ _) (fun j a b => (upI_ne _ _ (by omega)).trans (hg3 j a b)) hgr (Or.inl (by omega)) (by omega)⟩)⟩ (by omega) _ _ hP hD hS ls (lv_sub hl [0, 2] rfl)
                      · skip
                        refine lv_aload_n hx hb dX6_look_103 rfl (lv_at hl 2 rfl) ?_
                        refine lv_iload_n hx hb dX6_look_104 rfl (lv_at hl 1 rfl) ?_
                        refine lv_aload_n hx hb dX6_look_105 rfl (lv_at hl 2 rfl) ?_
                        refine va_get (D := (dC, dI)) (ci := 6) (v := .ref (ma 18)) (C := RX6) (T := TX6) (N := 44) hx hb hts kt_X6 hown hK hP 0 rfl rfl 18 (by decide) (kx_word hG kq_07_mlook_1 rfl) (fun _ h9 => h9) rfl dX6_look_106 ?_
                        refine lv_iload_n hx hb dX6_look_109 rfl (lv_at hl 0 rfl) ?_
                        refine lv_iconst (v := iz 1) hx hb dX6_look_110 (by decide) ?_
                        refine ki_isub hx hb dX6_look_111 ?_
                        refine ki_iald (F := G2 18) hx hb hK hP 14 13 rfl rfl (by omega) (by omega) (by decide) dX6_look_112 ?_
                        have hbd_11 := hB2.2 18 (ap - 1)
                        refine mk_calli (As := [.int (iz ev), .int (iz (G2 18 (ap - 1)))]) (rest := []) ⟨hx, hb, hml, hown, hts⟩ (k_isBefore2 l dC dI mo ma cs J G2 ev (G2 18 (ap - 1)) ev H.size hB2 (by omega) (fun e => by rw [hf2.2 5 (by decide), hf1.2 5 (by decide), f5]; exact hn e) (hlv.fr e1 ((hf2.2 2 (by decide)).trans ((hf1.2 2 (by decide)).trans f2)) ((hf2.2 3 (by decide)).trans ((hf1.2 3 (by decide)).trans f3))) (mSm.fr (F := G1) (fun e a b => by rw [ho1 e (by omega), hf1.2 2 (by decide)]; exact hsm e a b) (hf2.2 17 (by decide)) (hf2.2 2 (by decide))) (by omega) (by have h9 := hr2 (ap - 1) (by omega) (by omega); omega) (fun e a b => kf_mSg_fr (hsgs e a (by omega)) ((hf2.2 4 (by decide)).trans ((hf1.2 4 (by decide)).trans (hfJ.2 4 (by decide)))) ((hf2.2 5 (by decide)).trans ((hf1.2 5 (by decide)).trans (hfJ.2 5 (by decide))))) (by rw [hfJ.1 14 (by decide)]; exact hdg) (by rw [hfJ.1 15 (by decide)]; exact hwd)) (cwV 2 hts (kx_gV kq_07_mlook_2 kq_07_mlook_3 kq_07_mlook_4 kq_04_msmall_6 kq_07_mlook_5 rfl) rfl rfl rfl (by decide +kernel) ⟨Nat.le_of_ble_eq_true rfl, Nat.le_of_ble_eq_true rfl⟩) hP hD hK hG hZ hS hA rfl hl.1 rfl (Nat.le_of_ble_eq_true rfl) dX6_look_113 ⟨Nat.le_of_ble_eq_true rfl, Nat.le_of_ble_eq_true rfl⟩ (fun z_12 I_14 F_15 H locs hq_13 hP hD hS => ?_)
                        try dsimp only at hq_13
                        have hdx : (rs_bf (G2 2) (G2 3) (G2 17) (kf_oc J G2) ev (G2 18 (ap - 1))) ↔ (rs_bf (F 2) (F 3) (G1 17) (kf_oc I F)) ev (G 18 (ap - 1)) := by rw [show G2 2 = F 2 from (hf2.2 2 (by decide)).trans ((hf1.2 2 (by decide)).trans f2), show G2 3 = F 3 from (hf2.2 3 (by decide)).trans ((hf1.2 3 (by decide)).trans f3), hf2.2 17 (by decide), hg1 (ap - 1) (by omega) (by omega), kf_oc_fr (hfJ.1 14 (by decide)) (hfJ.1 15 (by decide)) ((hf2.2 4 (by decide)).trans ((hf1.2 4 (by decide)).trans (hfJ.2 4 (by decide)))) ((hf2.2 5 (by decide)).trans ((hf1.2 5 (by decide)).trans f5))]
                        obtain ⟨rfl, hB16, hf16, hr16⟩ := hq_13
                        rw [hdx] at hr16
                        have hr16b : z_12 = 0 ∨ z_12 = 1 := by rcases hr16 with h9 | h9; exact Or.inr h9.1; exact Or.inl h9.1
                        replace hr16 := fun (_ : Unit) => hr16
                        refine ki_if_eq (tgt := 139) hx hb dX6_look_116 (by decide) (by omega) (by omega) (fun c_17 => ?_) (fun c_17 => ?_)
                        · skip
                          have hnb : ¬ (rs_bf (F 2) (F 3) (G1 17) (kf_oc I F)) ev (G 18 (ap - 1)) := by rcases hr16 () with h9 | h9; exact absurd h9.1 (by omega); exact h9.2
                          refine lv_aload_n hx hb dX6_look_139 rfl (lv_at hl 2 rfl) ?_
                          refine va_get (D := (dC, dI)) (ci := 6) (v := .ref (ma 18)) (C := RX6) (T := TX6) (N := 44) hx hb hts kt_X6 hown hK hP 0 rfl rfl 18 (by decide) (kx_word hG kq_07_mlook_1 rfl) (fun _ h9 => h9) rfl dX6_look_140 ?_
                          refine lv_iload_n hx hb dX6_look_143 rfl (lv_at hl 0 rfl) ?_
                          refine lv_iload_n hx hb dX6_look_144 rfl (lv_at hl 1 rfl) ?_
                          refine ki_iast (F := F_15 18) hx hb hK hP hD hS 14 13 rfl rfl (by omega) (by omega) (by decide) dX6_look_145 (fun H locs hP hD hS => ?_)
                          have hP : va_P (dC, dI) kxCl (mW mo ma cs J (va_up F_15 18 (upI (F_15 18) ap ev))) H := hP
                          have hD : va_D A (mW mo ma cs J (va_up F_15 18 (upI (F_15 18) ap ev))) := hD
                          refine lv_aload_n hx hb dX6_look_146 rfl (lv_at hl 2 rfl) ?_
                          refine lv_dup hx hb dX6_look_147 rfl ?_
                          refine va_get (D := (dC, dI)) (ci := 6) (v := .int (iz (J 19))) (C := RX6) (T := TX6) (N := 44) hx hb hts kt_X6 hown hK hP 0 rfl rfl 19 (by decide) (kx_word hG kq_07_mlook_0 rfl) (fun _ h9 => h9) rfl dX6_look_148 ?_
                          have hbd_18 := hB16.1 19
                          refine lv_iconst (v := iz 1) hx hb dX6_look_151 (by decide) ?_
                          refine ki_iadd hx hb dX6_look_152 ?_
                          refine va_put (D := (dC, dI)) (ci := 6) (v := .int (iz ((J 19) + 1))) (ty := .int) (C := RX6) (T := TX6) (N := 44) hx hb hts kt_X6 tyX6 tyX6_ok nmX6 hown hK hP hD hS 0 rfl rfl 19 (by decide) (kx_word hG kq_07_mlook_0 rfl) (fun _ h9 => h9) rfl (by decide +kernel) rfl rfl (Nat.le_of_ble_eq_true rfl) dX6_look_153 (fun H locs hP hD hS => ?_)
                          have hP : va_P (dC, dI) kxCl (mW mo ma cs (va_up J 19 ((J 19) + 1)) (va_up F_15 18 (upI (F_15 18) ap ev))) H := hP
                          have hD : va_D A (mW mo ma cs (va_up J 19 ((J 19) + 1)) (va_up F_15 18 (upI (F_15 18) ap ev))) := hD
                          refine lv_iinc (v := iz (ev + 1)) (lv' := [(1, .int (iz (ev + 1))), (2, .int (iz ap)), (0, .ref mo)]) hx hb dX6_look_156 hl (k := 1) rfl (iz_add ev 1) (by decide) rfl (fun ls hl => ?_)
                          refine lv_goto (tgt := 20) hx hb dX6_look_159 (by decide) ?_
                          exact ih20 (ev + 1) (va_up J 19 ((J 19) + 1)) (va_up F_15 18 (upI (F_15 18) ap ev)) ⟨(mB_f (mB_i hB16 19 (by omega) (by omega)) 18 ap (by omega) (by omega)), mfr.upI (k := 19) (hfJ.tr ((hf1.mono (by decide) (by decide)).tr ((mfr.upF (hf2.tr (hf16.mono (by decide) (by decide))) (k := 18) (by decide) _).mono (by decide) (by decide)))) (by decide) _, hk16, by omega, mSm.fr (mSm.add hsm (hf1.2 2 (by decide)) ho1 hv1) (show (va_up F_15 18 (upI (F_15 18) ap ev)) 17 = G1 17 from (hf2.tr (hf16.mono (by decide) (by decide))).2 17 (by decide)) (show (va_up F_15 18 (upI (F_15 18) ap ev)) 2 = G1 2 from (hf2.tr (hf16.mono (by decide) (by decide))).2 2 (by decide)), by have e9 : (va_up J 19 ((J 19) + 1)) 19 = J 19 + 1 := va_up_self _ _ _; omega, by have e9 : (va_up J 19 ((J 19) + 1)) 19 = J 19 + 1 := va_up_self _ _ _; rw [e9]; exact mRw.up (n := 0) (hi := ev) (i0 := ap) (v := ev) (F := F_15) (fun i a b c9 => if h9 : i < J 19 then (by rw [congrFun (hf16.2 18 (by decide)) _]; exact hr2 i a h9) else (by rw [show i = J 19 by omega]; exact (by rw [congrFun (hf16.2 18 (by decide)) _]; exact hr3 (by omega)))) rfl (by omega) (by omega), (by rw [(show (va_up F_15 18 (upI (F_15 18) ap ev)) 17 = G1 17 from (hf2.tr (hf16.mono (by decide) (by decide))).2 17 (by decide)), (show (va_up F_15 18 (upI (F_15 18) ap ev)) 18 = upI (G2 18) ap ev from (congrArg (fun f9 => upI f9 ap ev) (hf16.2 18 (by decide)))), (show (va_up J 19 ((J 19) + 1)) 19 = J 19 + 1 from va_up_self _ _ _)]; exact ⟨hPn, rs_rows_add (kf_oc_cm I F) hL (by omega) hsk ho1 hso hme (by omega) (fun j a b => (upI_ne _ _ (by omega)).trans (hg1 j a b)) (upI_self _ _ _) (fun j a b => (upI_ne _ _ (by omega)).trans (hg3 j a b)) hgr (Or.inr hnb) (by omega)⟩)⟩ (by omega) _ _ hP hD hS ls (lv_sub hl [0, 2] rfl)
                        · skip
                          have hyb : (rs_bf (F 2) (F 3) (G1 17) (kf_oc I F)) ev (G 18 (ap - 1)) := by rcases hr16 () with h9 | h9; exact h9.2; exact absurd h9.1 (by omega)
                          refine lv_aload_n hx hb dX6_look_119 rfl (lv_at hl 2 rfl) ?_
                          refine va_get (D := (dC, dI)) (ci := 6) (v := .ref (ma 18)) (C := RX6) (T := TX6) (N := 44) hx hb hts kt_X6 hown hK hP 0 rfl rfl 18 (by decide) (kx_word hG kq_07_mlook_1 rfl) (fun _ h9 => h9) rfl dX6_look_120 ?_
                          refine lv_iload_n hx hb dX6_look_123 rfl (lv_at hl 0 rfl) ?_
                          refine lv_aload_n hx hb dX6_look_124 rfl (lv_at hl 2 rfl) ?_
                          refine va_get (D := (dC, dI)) (ci := 6) (v := .ref (ma 18)) (C := RX6) (T := TX6) (N := 44) hx hb hts kt_X6 hown hK hP 0 rfl rfl 18 (by decide) (kx_word hG kq_07_mlook_1 rfl) (fun _ h9 => h9) rfl dX6_look_125 ?_
                          refine lv_iload_n hx hb dX6_look_128 rfl (lv_at hl 0 rfl) ?_
                          refine lv_iconst (v := iz 1) hx hb dX6_look_129 (by decide) ?_
                          refine ki_isub hx hb dX6_look_130 ?_
                          refine ki_iald (F := F_15 18) hx hb hK hP 14 13 rfl rfl (by omega) (by omega) (by decide) dX6_look_131 ?_
                          have hbd_19 := hB16.2 18 (ap - 1)
                          refine ki_iast (F := F_15 18) hx hb hK hP hD hS 14 13 rfl rfl (by omega) (by omega) (by decide) dX6_look_132 (fun H locs hP hD hS => ?_)
                          have hP : va_P (dC, dI) kxCl (mW mo ma cs J (va_up F_15 18 (upI (F_15 18) ap (F_15 18 (ap - 1))))) H := hP
                          have hD : va_D A (mW mo ma cs J (va_up F_15 18 (upI (F_15 18) ap (F_15 18 (ap - 1))))) := hD
                          refine lv_iinc (v := iz (ap + (-1))) (lv' := [(2, .int (iz (ap + (-1)))), (1, .int (iz ev)), (0, .ref mo)]) hx hb dX6_look_133 hl (k := 0) rfl (iz_add ap (-1)) (by decide) rfl (fun ls hl => ?_)
                          refine lv_goto (tgt := 99) hx hb dX6_look_136 (by decide) ?_
                          exact ih99 (ap + (-1)) (va_up F_15 18 (upI (F_15 18) ap (F_15 18 (ap - 1)))) ⟨(mB_f hB16 18 ap (by omega) (by omega)), mfr.upF (hf2.tr (hf16.mono (by decide) (by decide))) (by decide) _, by omega, fun i a b => if h9 : i = ap then (by rw [h9]; exact (by rw [show (va_up F_15 18 (upI (F_15 18) ap (F_15 18 (ap - 1)))) 18 ap = F_15 18 (ap - 1) from upI_self _ _ _, congrFun (hf16.2 18 (by decide)) (ap - 1)]; exact hr2 (ap - 1) (by omega) (by omega))) else (by rw [show (va_up F_15 18 (upI (F_15 18) ap (F_15 18 (ap - 1)))) 18 i = F_15 18 i from upI_ne _ _ h9, congrFun (hf16.2 18 (by decide)) i]; exact hr2 i a b), fun h => if h9 : J 19 = ap then (by rw [h9]; exact (by rw [show (va_up F_15 18 (upI (F_15 18) ap (F_15 18 (ap - 1)))) 18 ap = F_15 18 (ap - 1) from upI_self _ _ _, congrFun (hf16.2 18 (by decide)) (ap - 1)]; exact hr2 (ap - 1) (by omega) (by omega))) else (by rw [show (va_up F_15 18 (upI (F_15 18) ap (F_15 18 (ap - 1)))) 18 (J 19) = F_15 18 (J 19) from upI_ne _ _ h9, congrFun (hf16.2 18 (by decide)) (J 19)]; exact hr3 (by omega)), fun j a b => (show (va_up F_15 18 (upI (F_15 18) ap (F_15 18 (ap - 1)))) 18 j = F_15 18 j from upI_ne _ _ (by omega)).trans ((congrFun (hf16.2 18 (by decide)) j).trans (hg1 j a (by omega))), fun j a b => by by_cases c9 : j = ap; (rw [c9, show (va_up F_15 18 (upI (F_15 18) ap (F_15 18 (ap - 1)))) 18 ap = F_15 18 (ap - 1) from upI_self _ _ _, congrFun (hf16.2 18 (by decide)) (ap - 1)]; exact hg1 (ap - 1) (by omega) (by omega)); (rw [show (va_up F_15 18 (upI (F_15 18) ap (F_15 18 (ap - 1)))) 18 j = F_15 18 j from upI_ne _ _ c9, congrFun (hf16.2 18 (by decide)) j]; exact hg3 j (by omega) b), fun j a b => by by_cases c9 : j = ap - 1; (rw [c9]; exact hyb); exact hgr j (by omega) b⟩ (by omega) _ _ hP hD hS ls (lv_sub hl [0, 1, 2] rfl)
                  exact lp99 _ (J 19) G1 ⟨hB1, mfr.rf, by omega, fun i a b => by rw [hf1.2 18 (by decide)]; exact hrw i a b, fun h => absurd h (by omega), fun j a b => congrFun (hf1.2 18 (by decide)) j, fun j a b => absurd b (by omega), fun j a b => absurd b (by omega)⟩ (Nat.lt_succ_self _) _ _ hP hD hS ls (lv_sub hl [0, 1, 2] rfl)
              · skip
                have hlvk := hlv k (by omega) (by omega)
                refine lv_aload_n hx hb dX6_look_43 rfl (lv_at hl 2 rfl) ?_
                refine va_get (D := (dC, dI)) (ci := 6) (v := .ref (ma 17)) (C := RX6) (T := TX6) (N := 44) hx hb hts kt_X6 hown hK hP 0 rfl rfl 17 (by decide) (kx_word hG kq_06_mway_15 rfl) (fun _ h9 => h9) rfl dX6_look_44 ?_
                refine lv_iload_n hx hb dX6_look_47 rfl (lv_at hl 1 rfl) ?_
                refine lv_aload_n hx hb dX6_look_48 rfl (lv_at hl 2 rfl) ?_
                refine va_get (D := (dC, dI)) (ci := 6) (v := .ref (ma 17)) (C := RX6) (T := TX6) (N := 44) hx hb hts kt_X6 hown hK hP 0 rfl rfl 17 (by decide) (kx_word hG kq_06_mway_15 rfl) (fun _ h9 => h9) rfl dX6_look_49 ?_
                refine lv_iload_n hx hb dX6_look_52 rfl (lv_at hl 0 rfl) ?_
                refine ki_iald (F := G1 17) hx hb hK hP 13 12 rfl rfl (by omega) (by omega) (by decide) dX6_look_53 ?_
                have hbd_20 := hB1.2 17 k
                refine lv_iload_n hx hb dX6_look_54 rfl (lv_at hl 0 rfl) ?_
                refine ki_icmp_ne (tgt := 71) hx hb dX6_look_55 (by decide) (by omega) (by omega) (by omega) (by omega) (fun c_21 => ?_) (fun c_21 => ?_)
                · skip
                  have hnal9 : ¬ (G 17 k = k ∧ rs_al (F 2) (F 3) (rs_wd F) (G 17) ev k) := fun h9 => absurd h9.1 (by rw [← ho1 k (by omega)]; omega)
                  refine lv_aload_n hx hb dX6_look_71 rfl (lv_at hl 2 rfl) ?_
                  refine va_get (D := (dC, dI)) (ci := 6) (v := .ref (ma 17)) (C := RX6) (T := TX6) (N := 44) hx hb hts kt_X6 hown hK hP 0 rfl rfl 17 (by decide) (kx_word hG kq_06_mway_15 rfl) (fun _ h9 => h9) rfl dX6_look_72 ?_
                  refine lv_iload_n hx hb dX6_look_75 rfl (lv_at hl 1 rfl) ?_
                  refine ki_iald (F := G1 17) hx hb hK hP 13 12 rfl rfl (by omega) (by omega) (by decide) dX6_look_76 ?_
                  have hbd_22 := hB1.2 17 ev
                  refine ki_iast (F := G1 17) hx hb hK hP hD hS 13 12 rfl rfl (by omega) (by omega) (by decide) dX6_look_77 (fun H locs hP hD hS => ?_)
                  have hP : va_P (dC, dI) kxCl (mW mo ma cs J (va_up G1 17 (upI (G1 17) ev (G1 17 ev)))) H := hP
                  have hD : va_D A (mW mo ma cs J (va_up G1 17 (upI (G1 17) ev (G1 17 ev)))) := hD
                  refine lv_iinc (v := iz (k + (-1))) (lv' := [(2, .int (iz (k + (-1)))), (1, .int (iz ev)), (0, .ref mo)]) hx hb dX6_look_78 hl (k := 0) rfl (iz_add k (-1)) (by decide) rfl (fun ls hl => ?_)
                  refine lv_goto (tgt := 39) hx hb dX6_look_81 (by decide) ?_
                  exact ih39 (k + (-1)) (va_up G1 17 (upI (G1 17) ev (G1 17 ev))) ⟨(mB_f hB1 17 ev (by omega) (by omega)), mfr.upF hf1 (by decide) _, fun j hj => (upI_ne _ _ hj).trans (ho1 j hj), by have e9 : (va_up G1 17 (upI (G1 17) ev (G1 17 ev))) 17 ev = G1 17 ev := upI_self _ _ _; rw [e9]; exact hv1, by omega, (by have e9 : (va_up G1 17 (upI (G1 17) ev (G1 17 ev))) 17 ev = G1 17 ev := upI_self _ _ _; rw [e9]; rcases hv3 () with h9 | h9; exact Or.inl h9; exact Or.inr ⟨by omega, h9.2⟩), (by have e9 : (va_up G1 17 (upI (G1 17) ev (G1 17 ev))) 17 ev = G1 17 ev := upI_self _ _ _; rw [e9]; exact fun j a b c => by by_cases c9 : j = k; (rw [c9] at c; exact hnal9 c); exact hv4 j (by omega) b c)⟩ (by omega) _ _ hP hD hS ls (lv_sub hl [0, 1, 2] rfl)
                · skip
                  refine lv_aload_n hx hb dX6_look_58 rfl (lv_at hl 2 rfl) ?_
                  refine lv_iload_n hx hb dX6_look_59 rfl (lv_at hl 1 rfl) ?_
                  refine lv_iload_n hx hb dX6_look_60 rfl (lv_at hl 0 rfl) ?_
                  refine mk_calli (As := [.int (iz ev), .int (iz k)]) (rest := [.int (iz ev), .ref (ma 17)]) ⟨hx, hb, hml, hown, hts⟩ (k_areAlike2 l dC dI mo ma cs J G1 ev k H.size hB1 (by omega) (by omega) (fun e => by rw [hf1.2 5 (by decide), f5]; exact hn e) (by omega) (by omega)) (cwV 2 hts (kx_gV kq_07_mlook_6 kq_07_mlook_7 kq_07_mlook_8 kq_04_msmall_6 kq_07_mlook_9 rfl) rfl rfl rfl (by decide +kernel) ⟨Nat.le_of_ble_eq_true rfl, Nat.le_of_ble_eq_true rfl⟩) hP hD hK hG hZ hS hA rfl hl.1 rfl (Nat.le_of_ble_eq_true rfl) dX6_look_61 ⟨Nat.le_of_ble_eq_true rfl, Nat.le_of_ble_eq_true rfl⟩ (fun z_23 I_25 F_26 H locs hq_24 hP hD hS => ?_)
                  try dsimp only at hq_24
                  obtain ⟨rfl, rfl, hq_24⟩ := hq_24
                  have hcv9 : rs_al (G1 2) (G1 3) (rs_wd G1) (G1 17) ev k ↔ rs_al (F 2) (F 3) (rs_wd F) (G 17) ev k := by rw [show G1 2 = F 2 from (hf1.2 2 (by decide)).trans f2, show G1 3 = F 3 from (hf1.2 3 (by decide)).trans f3, rs_wd_fr ((hf1.2 4 (by decide)).trans (hfJ.2 4 (by decide))) ((hf1.2 5 (by decide)).trans f5)]; exact ⟨rs_al_cg (e := ev) hL (fun j a b => ho1 j (by omega)) (by omega) (by omega), rs_al_cg (e := ev) hL (fun j a b => (ho1 j (by omega)).symm) (by omega) (by omega)⟩
                  rw [hcv9] at hq_24
                  rcases hq_24 with ⟨rfl, hq_24⟩ | ⟨rfl, hq_24⟩
                  · skip
                    refine ki_if_eq (tgt := 71) hx hb dX6_look_64 (by decide) (by omega) (by omega) (fun c_27 => ?_) (fun c_27 => ?_)
                    · omega
                    · skip
                      have hal9 := hq_24
                      have hkk9 : G 17 k = k := by rw [← ho1 k (by omega)]; omega
                      refine lv_iload_n hx hb dX6_look_67 rfl (lv_at hl 0 rfl) ?_
                      refine lv_goto (tgt := 77) hx hb dX6_look_68 (by decide) ?_
                      refine ki_iast (F := G1 17) hx hb hK hP hD hS 13 12 rfl rfl (by omega) (by omega) (by decide) dX6_look_77 (fun H locs hP hD hS => ?_)
                      have hP : va_P (dC, dI) kxCl (mW mo ma cs J (va_up G1 17 (upI (G1 17) ev k))) H := hP
                      have hD : va_D A (mW mo ma cs J (va_up G1 17 (upI (G1 17) ev k))) := hD
                      refine lv_iinc (v := iz (k + (-1))) (lv' := [(2, .int (iz (k + (-1)))), (1, .int (iz ev)), (0, .ref mo)]) hx hb dX6_look_78 hl (k := 0) rfl (iz_add k (-1)) (by decide) rfl (fun ls hl => ?_)
                      refine lv_goto (tgt := 39) hx hb dX6_look_81 (by decide) ?_
                      exact ih39 (k + (-1)) (va_up G1 17 (upI (G1 17) ev k)) ⟨(mB_f hB1 17 ev (by omega) (by omega)), mfr.upF hf1 (by decide) _, fun j hj => (upI_ne _ _ hj).trans (ho1 j hj), by have e9 : (va_up G1 17 (upI (G1 17) ev k)) 17 ev = k := upI_self _ _ _; rw [e9]; exact ⟨by omega, by omega, (by have h9 := hal9.1; show G1 2 k = G1 2 ev; rw [congrFun ((hf1.2 2 (by decide)).trans f2) k, congrFun ((hf1.2 2 (by decide)).trans f2) ev]; omega)⟩, by omega, (by have e9 : (va_up G1 17 (upI (G1 17) ev k)) 17 ev = k := upI_self _ _ _; rw [e9]; exact Or.inr ⟨by omega, by omega, hkk9, hal9⟩), (by have e9 : (va_up G1 17 (upI (G1 17) ev k)) 17 ev = k := upI_self _ _ _; rw [e9]; exact fun j a b => absurd b (by omega))⟩ (by omega) _ _ hP hD hS ls (lv_sub hl [0, 1, 2] rfl)
                  · skip
                    refine ki_if_eq (tgt := 71) hx hb dX6_look_64 (by decide) (by omega) (by omega) (fun c_28 => ?_) (fun c_28 => ?_)
                    · skip
                      have hnal9 : ¬ (G 17 k = k ∧ rs_al (F 2) (F 3) (rs_wd F) (G 17) ev k) := fun h9 => hq_24 h9.2
                      refine lv_aload_n hx hb dX6_look_71 rfl (lv_at hl 2 rfl) ?_
                      refine va_get (D := (dC, dI)) (ci := 6) (v := .ref (ma 17)) (C := RX6) (T := TX6) (N := 44) hx hb hts kt_X6 hown hK hP 0 rfl rfl 17 (by decide) (kx_word hG kq_06_mway_15 rfl) (fun _ h9 => h9) rfl dX6_look_72 ?_
                      refine lv_iload_n hx hb dX6_look_75 rfl (lv_at hl 1 rfl) ?_
                      refine ki_iald (F := G1 17) hx hb hK hP 13 12 rfl rfl (by omega) (by omega) (by decide) dX6_look_76 ?_
                      have hbd_29 := hB1.2 17 ev
                      refine ki_iast (F := G1 17) hx hb hK hP hD hS 13 12 rfl rfl (by omega) (by omega) (by decide) dX6_look_77 (fun H locs hP hD hS => ?_)
                      have hP : va_P (dC, dI) kxCl (mW mo ma cs J (va_up G1 17 (upI (G1 17) ev (G1 17 ev)))) H := hP
                      have hD : va_D A (mW mo ma cs J (va_up G1 17 (upI (G1 17) ev (G1 17 ev)))) := hD
                      refine lv_iinc (v := iz (k + (-1))) (lv' := [(2, .int (iz (k + (-1)))), (1, .int (iz ev)), (0, .ref mo)]) hx hb dX6_look_78 hl (k := 0) rfl (iz_add k (-1)) (by decide) rfl (fun ls hl => ?_)
                      refine lv_goto (tgt := 39) hx hb dX6_look_81 (by decide) ?_
                      exact ih39 (k + (-1)) (va_up G1 17 (upI (G1 17) ev (G1 17 ev))) ⟨(mB_f hB1 17 ev (by omega) (by omega)), mfr.upF hf1 (by decide) _, fun j hj => (upI_ne _ _ hj).trans (ho1 j hj), by have e9 : (va_up G1 17 (upI (G1 17) ev (G1 17 ev))) 17 ev = G1 17 ev := upI_self _ _ _; rw [e9]; exact hv1, by omega, (by have e9 : (va_up G1 17 (upI (G1 17) ev (G1 17 ev))) 17 ev = G1 17 ev := upI_self _ _ _; rw [e9]; rcases hv3 () with h9 | h9; exact Or.inl h9; exact Or.inr ⟨by omega, h9.2⟩), (by have e9 : (va_up G1 17 (upI (G1 17) ev (G1 17 ev))) 17 ev = G1 17 ev := upI_self _ _ _; rw [e9]; exact fun j a b c => by by_cases c9 : j = k; (rw [c9] at c; exact hnal9 c); exact hv4 j (by omega) b c)⟩ (by omega) _ _ hP hD hS ls (lv_sub hl [0, 1, 2] rfl)
                    · omega
          exact lp39 _ (ev - 1) (va_up G 17 (upI (G 17) ev ev)) ⟨(mB_f hBJ 17 ev (by omega) (by omega)), (mfr.upF mfr.rf (by decide) _), fun j hj => upI_ne _ _ hj, by have e9 : (va_up G 17 (upI (G 17) ev ev)) 17 ev = ev := upI_self _ _ _; rw [e9]; exact ⟨by omega, by omega, rfl⟩, by omega, Or.inl (upI_self _ _ _), fun j a b => by have e9 : (va_up G 17 (upI (G 17) ev ev)) 17 ev = ev := upI_self _ _ _; rw [e9] at b; exact absurd b (by omega)⟩ (Nat.lt_succ_self _) _ _ hP hD hS ls (lv_sub hl [0, 1, 2] rfl)
    exact lp20 _ 0 (va_up (va_up I 16 1) 19 0) F ⟨(mB_i (mB_i hB 16 (by omega) (by omega)) 19 (by omega) (by omega)), (mfr.upI (mfr.upI mfr.rf (by decide) _) (by decide) _), rfl, by omega, fun e a b => absurd b (by omega), by have e9 : (va_up (va_up I 16 1) 19 0) 19 = 0 := rfl; omega, fun i a b => absurd (show i < 0 from b) (by omega), ⟨fun e a b => absurd b (by omega), fun i j a b c => absurd (show j < 0 from c) (by omega), fun x => ⟨fun h9 => by obtain ⟨j, a, b, c⟩ := h9; exact absurd (show j < 0 from b) (by omega), fun h9 => absurd h9.2.1 (by omega)⟩⟩⟩ (Nat.lt_succ_self _) _ _ hP hD hS ls (lv_sub hl [0, 1] rfl)
  · skip
    rw [← hQe]
    exact mk_ret hx hb hr hlocks hP hD hK hS dX6_look_7 (by have h9 := hkn (by omega); exact ⟨⟨hB, mfr.rf, by omega, h9.1, h9.2.1, h9.2.2⟩, hks (by omega)⟩)
