/-! the law's own helpers, each a call with its catches, on a fresh object -/
theorem kz_upd (f : Nat → Int64) (x : Int64) : vp_updL f (0 : Int32).toNatClampNeg x 0 = x := by unfold vp_updL; exact if_pos (by decide)
set_option maxHeartbeats 4000000 in
set_option maxRecDepth 100000 in
theorem c_L_entry (l : Launch) (hlf : l.stackTraces = false) (dC : Nat → ClassId) (dI : Nat → Nat → Nat) (x : Nat) (xe : Nat) (xn : Nat) (xso : Nat) (xro : Nat) (xga : Nat) (xlo : Nat) (xse : Nat) (xwa : Nat) (xst : Nat) (xou : Nat) (xdr : Nat) (cE : ClassId) (lv : Int32) (ab : Int32) (o : Nat) (cL : ClassId) (fo : Nat → Int64) (sz : Nat) : Met l yL_entry [.codeWith yL_entry cL_entry 5 (some .int) [(0, 10, 13, 13), (0, 10, 17, 15), (0, 10, 21, 17)]] ({ frames := 8, cells := 16, slots := 36, locals := 122 }) (va_Pc [.ref x, .int lv, .int ab, .ref o] (kx_Pre dC dI [(x, .inr (5, [.ref xe, .ref xn, .int 0, .int 1, .int 1, .ref xso, .ref xro, .int 0, .ref xga, .ref xlo, .int (-1), .ref xse, .ref xwa, .ref xst, .ref xou, .ref xdr])), (xe, .inl (cE, 80, .inr (.inr (.inr (.inr (fun _ => none)))))), (o, .inl (cL, 1, .inr (.inl fo)))] [(cE, .object RX0), (cL, .long)] sz)) (va_Qi (fun (r : Int32) (u : (Nat → Int64)) => match u with | fo1 => r = ek_entry lv ab ∧ (ek_entry lv ab = 0 → fo1 0 = Int32.toInt64 (0))) (fun (u : (Nat → Int64)) (t : State) => match u with | fo1 => kx_At dC dI (va_A [(x, .inr (5, [.ref xe, .ref xn, .int 0, .int 1, .int 1, .ref xso, .ref xro, .int 0, .ref xga, .ref xlo, .int (-1), .ref xse, .ref xwa, .ref xst, .ref xou, .ref xdr])), (xe, .inl (cE, 80, .inr (.inr (.inr (.inr (fun _ => none)))))), (o, .inl (cL, 1, .inr (.inl fo)))] sz) [(o, .inl (cL, 1, .inr (.inl fo1)))] [(cL, .long)] t) (va_A [(x, .inr (5, [.ref xe, .ref xn, .int 0, .int 1, .int 1, .ref xso, .ref xro, .int 0, .ref xga, .ref xlo, .int (-1), .ref xse, .ref xwa, .ref xst, .ref xou, .ref xdr])), (xe, .inl (cE, 80, .inr (.inr (.inr (.inr (fun _ => none)))))), (o, .inl (cL, 1, .inr (.inl fo)))] sz)) 16 36 (va_A [(x, .inr (5, [.ref xe, .ref xn, .int 0, .int 1, .int 1, .ref xso, .ref xro, .int 0, .ref xga, .ref xlo, .int (-1), .ref xse, .ref xwa, .ref xst, .ref xou, .ref xdr])), (xe, .inl (cE, 80, .inr (.inr (.inr (.inr (fun _ => none)))))), (o, .inl (cL, 1, .inr (.inl fo)))] sz) := by
  refine va_MetW (cc := cL_entry) (maxL := 5) (ret := (some .int)) (hh := [(0, 10, 13, 13), (0, 10, 17, 15), (0, 10, 21, 17)]) (by decide) rfl ?_
  intro p e s m args below meth c s₁ B hml hv
  obtain ⟨rfl, hsz, hP, hK, hD0, hG, hZ⟩ := hv
  have hx := B.exec
  have hb := B.bytes
  have hr := B.returns
  have hts := kx_hts (a := #[.ref x, .int lv, .int ab, .ref o]) hG
  have hown : s.vm.findClass RL = some m.cls := findClass_of_methodNamed B.named
  have hlocks := B.notSynchronized
  have htab := vx_table (x := yL_entry) B (bytes := cL_entry) (maxL' := 5) (ret' := (some .int)) (hh := [(0, 10, 13, 13), (0, 10, 17, 15), (0, 10, 21, 17)]) (kx_word hG kq_227 rfl)
  subst hsz
  have hD := hD0.self (sz := s.heap.size)
  generalize hAe : va_A [(x, .inr (5, [.ref xe, .ref xn, .int 0, .int 1, .int 1, .ref xso, .ref xro, .int 0, .ref xga, .ref xlo, .int (-1), .ref xse, .ref xwa, .ref xst, .ref xou, .ref xdr])), (xe, .inl (cE, 80, .inr (.inr (.inr (.inr (fun _ => none)))))), (o, .inl (cL, 1, .inr (.inl fo)))] s.heap.size = A at hD hZ ⊢
  have hA : ∀ q : Nat, s.heap.size ≤ q → A q := fun q h => by rw [← hAe]; exact Or.inr h
  have hS : va_S A s.heap s.heap [] := va_S.rf
  have hP : va_P (dC, dI) kxCl [(x, .inr (5, [.ref xe, .ref xn, .int 0, .int 1, .int 1, .ref xso, .ref xro, .int 0, .ref xga, .ref xlo, .int (-1), .ref xse, .ref xwa, .ref xst, .ref xou, .ref xdr])), (xe, .inl (cE, 80, .inr (.inr (.inr (.inr (fun _ => none)))))), (o, .inl (cL, 1, .inr (.inl fo)))] s.heap := hP
  have hl := lv_entry ([.ref x, .int lv, .int ab, .ref o]) (n := 5) (Nat.le_of_ble_eq_true rfl)
  rw [lg_entry_eq]
  generalize (lg_sl ([.ref x, .int lv, .int ab, .ref o]) ++ List.replicate (5 - (lg_sl ([.ref x, .int lv, .int ab, .ref o])).length) Slot.unset).toArray = ls at hl ⊢
  have hl : lv_has ls 5 [(0, .ref x), (1, .int lv), (2, .int ab), (3, .ref o)] := hl
  refine lv_aload_n hx hb dL_entry_0 rfl (lv_at hl 3 rfl) ?_
  refine lv_iconst (v := 0) hx hb dL_entry_1 (by decide) ?_
  refine lv_aload_n hx hb dL_entry_2 rfl (lv_at hl 0 rfl) ?_
  refine lv_iload_n hx hb dL_entry_3 rfl (lv_at hl 1 rfl) ?_
  refine lv_iload_n hx hb dL_entry_4 rfl (lv_at hl 2 rfl) ?_
  have hPc := hP.sub (ws' := [(x, .inr (5, [.ref xe, .ref xn, .int 0, .int 1, .int 1, .ref xso, .ref xro, .int 0, .ref xga, .ref xlo, .int (-1), .ref xse, .ref xwa, .ref xst, .ref xou, .ref xdr])), (xe, .inl (cE, 80, .inr (.inr (.inr (.inr (fun _ => none))))))]) [0, 1] rfl
  have hDc := hD.sub (ws' := [(x, .inr (5, [.ref xe, .ref xn, .int 0, .int 1, .int 1, .ref xso, .ref xro, .int 0, .ref xga, .ref xlo, .int (-1), .ref xse, .ref xwa, .ref xst, .ref xou, .ref xdr])), (xe, .inl (cE, 80, .inr (.inr (.inr (.inr (fun _ => none))))))]) [0, 1] (by decide) rfl
  have hKc := hK.sub (tys' := [(cE, .object RX0)]) [0] rfl
  have hFc := va_free (wc := [(x, .inr (5, [.ref xe, .ref xn, .int 0, .int 1, .int 1, .ref xso, .ref xro, .int 0, .ref xga, .ref xlo, .int (-1), .ref xse, .ref xwa, .ref xst, .ref xou, .ref xdr])), (xe, .inl (cE, 80, .inr (.inr (.inr (.inr (fun _ => none))))))]) hD hS hA [0, 1] rfl
  refine vx_calli (vx_runV (As := [.int lv, .int ab]) (rest := [.int 0, .ref o]) ⟨hx, hb, hml, hown, hts⟩ (c_entry l hlf dC dI x xe xn xso xro xga xlo xse xwa xst xou xdr cE lv ab s.heap.size ) (cwV 2 hts (kx_gV kq_228 kq_229 kq_230 kq_92 kq_231 rfl) rfl rfl rfl (by decide +kernel) ⟨Nat.le_of_ble_eq_true rfl, Nat.le_of_ble_eq_true rfl⟩) ⟨kx_blind, va_recv hKc hPc (ci := 5) (q0 := 0) rfl rfl, kx_give (ws := []) (tys := []) hPc hDc hKc hG hZ hS hFc⟩ rfl rfl hl.1 rfl (lv_room (Nat.le_of_ble_eq_true rfl)) dL_entry_5 ⟨Nat.le_of_ble_eq_true rfl, Nat.le_of_ble_eq_true rfl⟩) hS (fun q _ h => hFc q h) hFc (fun q _ h => hFc q h) (fun E ce q9 u t H1 locs ht hvm _ hEx hz1 hk1 hS hcell hcv hcl => ?_) (fun r_1 u t H1 locs ht hvm hw_2 hB hz1 hk1 hS => ?_)
  · skip
    obtain ⟨hP, hD⟩ := va_join (wr := [(o, .inl (cL, 1, .inr (.inl fo)))]) (w1 := []) hP hD [0, 1] [2] rfl rfl (by decide) (by decide) hk1 hFc (fun k q h => by simp at h) ⟨fun i j p q h => by simp at h, fun k q h => by simp at h⟩
    generalize H1 = H at hP hS hcell ⊢
    have hP : va_P (dC, dI) kxCl [(o, .inl (cL, 1, .inr (.inl fo)))] H := hP
    have hD : va_D A [(o, .inl (cL, 1, .inr (.inl fo)))] := hD
    rcases hEx with hEx | hEx
    · skip
      obtain ⟨rfl, hek⟩ := hEx
      refine vx_catch (own := RL) (name := "java/util/NoSuchElementException") hown [] ⟨0, 10, 13, 13⟩ [⟨0, 10, 17, 15⟩, ⟨0, 10, 21, 17⟩] (by rw [htab]; rfl) (fun z hz => absurd hz List.not_mem_nil) (by decide) (by decide) (kx_word hG kq_232 rfl) (kx_cast hG kq_233) hcell hcv hcl ?_
      refine W.eq (g2 := F0 m 13 ls [.ref q9]) rfl ?_
      refine W.widen (k := 16) (n := 36) (by omega) (by omega) ?_
      refine lv_astore (lv' := [(4, .ref q9), (0, .ref x), (1, .int lv), (2, .int ab), (3, .ref o)]) hx hb dL_entry_13 hl (by decide) rfl (fun ls hl => ?_)
      refine lv_iconst (v := 1) hx hb dL_entry_15 (by decide) ?_
      have hP9 := hP.sub (ws' := [(o, .inl (cL, 1, .inr (.inl fo)))]) [0] rfl
      have hD9 := hD.sub (ws' := [(o, .inl (cL, 1, .inr (.inl fo)))]) [0] (by decide) rfl
      have hK9 := hK.sub (tys' := [(cL, .long)]) [1] rfl
      exact W.iret (v := 1) hx hb hr (fun t ht hW => ⟨⟨1, (fo), rfl, ⟨hek.symm, fun h => absurd (hek.symm.trans h) (by decide)⟩, by rw [ht]; exact hP9, va_K.moved hW.alike hK9, hD9⟩, hS.F ht⟩) hS.2.2 dL_entry_16
    · skip
      obtain ⟨rfl, hek⟩ := hEx
      refine vx_catch (own := RL) (name := "java/lang/IllegalArgumentException") hown [⟨0, 10, 13, 13⟩] ⟨0, 10, 17, 15⟩ [⟨0, 10, 21, 17⟩] (by rw [htab]; rfl) (fun z hz => by rw [List.mem_singleton.mp hz]; exact Or.inr ⟨by decide, "java/util/NoSuchElementException", (kx_word hG kq_232 rfl), kx_nc hG (by decide +kernel)⟩) (by decide) (by decide) (kx_word hG kq_234 rfl) (kx_cast hG kq_235) hcell hcv hcl ?_
      refine W.eq (g2 := F0 m 17 ls [.ref q9]) rfl ?_
      refine W.widen (k := 16) (n := 36) (by omega) (by omega) ?_
      refine lv_astore (lv' := [(4, .ref q9), (0, .ref x), (1, .int lv), (2, .int ab), (3, .ref o)]) hx hb dL_entry_17 hl (by decide) rfl (fun ls hl => ?_)
      refine lv_iconst (v := 2) hx hb dL_entry_19 (by decide) ?_
      have hP9 := hP.sub (ws' := [(o, .inl (cL, 1, .inr (.inl fo)))]) [0] rfl
      have hD9 := hD.sub (ws' := [(o, .inl (cL, 1, .inr (.inl fo)))]) [0] (by decide) rfl
      have hK9 := hK.sub (tys' := [(cL, .long)]) [1] rfl
      exact W.iret (v := 2) hx hb hr (fun t ht hW => ⟨⟨2, (fo), rfl, ⟨hek.symm, fun h => absurd (hek.symm.trans h) (by decide)⟩, by rw [ht]; exact hP9, va_K.moved hW.alike hK9, hD9⟩, hS.F ht⟩) hS.2.2 dL_entry_20
  · skip
    obtain ⟨hP1, hK1, hD1⟩ := hB
    rw [ht] at hP1
    have hK1 := va_K.moved hvm.symm hK1
    try dsimp only at hw_2
    obtain ⟨hP, hD⟩ := va_join (wr := [(o, .inl (cL, 1, .inr (.inl fo)))]) (w1 := []) hP hD [0, 1] [2] rfl rfl (by decide) (by decide) hk1 hFc hP1 hD1
    have hK := (hK.sub (tys' := [(cL, .long)]) [1] rfl).app hK1
    generalize H1 = H at hP hS ⊢
    have hP : va_P (dC, dI) kxCl [(o, .inl (cL, 1, .inr (.inl fo)))] H := hP
    have hD : va_D A [(o, .inl (cL, 1, .inr (.inl fo)))] := hD
    have hK : va_K (dC, dI) kxCl [(cL, .long)] s := hK
    refine W.widen (k := 16) (n := 36) (by omega) (by omega) ?_
    obtain ⟨hr_1, hw_2⟩ := hw_2
    subst hr_1
    refine lv_i2l (v := Int32.toInt64 0) hx hb dL_entry_8 rfl ?_
    refine va_last hx hb hK hP hD hS 0 0 rfl rfl (show vp_in 0 1 by unfold vp_in; decide) dL_entry_9 (fun H locs hP hD hS => ?_)
    have hP : va_P (dC, dI) kxCl [(o, .inl (cL, 1, .inr (.inl (vp_updL fo (0 : Int32).toNatClampNeg (Int32.toInt64 0)))))] H := hP
    have hD : va_D A [(o, .inl (cL, 1, .inr (.inl (vp_updL fo (0 : Int32).toNatClampNeg (Int32.toInt64 0)))))] := hD
    refine lv_goto (tgt := 25) hx hb dL_entry_10 (by decide) ?_
    refine lv_iconst (v := 0) hx hb dL_entry_25 (by decide) ?_
    have hP9 := hP.sub (ws' := [(o, .inl (cL, 1, .inr (.inl (vp_updL fo (0 : Int32).toNatClampNeg (Int32.toInt64 0)))))]) [0] rfl
    have hD9 := hD.sub (ws' := [(o, .inl (cL, 1, .inr (.inl (vp_updL fo (0 : Int32).toNatClampNeg (Int32.toInt64 0)))))]) [0] (by decide) rfl
    have hK9 := hK.sub (tys' := [(cL, .long)]) [0] rfl
    exact W.iret (v := 0) hx hb hr (fun t ht hW => ⟨⟨0, (vp_updL fo (0 : Int32).toNatClampNeg (Int32.toInt64 0)), rfl, ⟨hw_2.symm, fun _ => kz_upd _ _⟩, by rw [ht]; exact hP9, va_K.moved hW.alike hK9, hD9⟩, hS.F ht⟩) hS.2.2 dL_entry_26
set_option maxHeartbeats 4000000 in
set_option maxRecDepth 100000 in
theorem c_L_sign (l : Launch) (hlf : l.stackTraces = false) (dC : Nat → ClassId) (dI : Nat → Nat → Nat) (x : Nat) (xe : Nat) (xn : Nat) (xso : Nat) (xro : Nat) (xga : Nat) (xlo : Nat) (xse : Nat) (xwa : Nat) (xst : Nat) (xou : Nat) (xdr : Nat) (p0 : Int32) (p1 : Int32) (o : Nat) (cL : ClassId) (fo : Nat → Int64) (sz : Nat) : Met l yL_sign [.codeWith yL_sign cL_sign 5 (some .int) [(0, 10, 13, 13), (0, 10, 17, 15), (0, 10, 21, 17)]] ({ frames := 9, cells := 1, slots := 6, locals := 144 }) (va_Pc [.ref x, .int p0, .int p1, .ref o] (kx_Pre dC dI [(x, .inr (5, [.ref xe, .ref xn, .int 0, .int 1, .int 1, .ref xso, .ref xro, .int 0, .ref xga, .ref xlo, .int (-1), .ref xse, .ref xwa, .ref xst, .ref xou, .ref xdr])), (o, .inl (cL, 1, .inr (.inl fo)))] [(cL, .long)] sz)) (va_Qi (fun (r : Int32) (u : Unit) => match u with | _ => r = 1) (fun (u : Unit) (t : State) => match u with | _ => kx_At dC dI (va_A [(x, .inr (5, [.ref xe, .ref xn, .int 0, .int 1, .int 1, .ref xso, .ref xro, .int 0, .ref xga, .ref xlo, .int (-1), .ref xse, .ref xwa, .ref xst, .ref xou, .ref xdr])), (o, .inl (cL, 1, .inr (.inl fo)))] sz) [(o, .inl (cL, 1, .inr (.inl fo)))] [(cL, .long)] t) (va_A [(x, .inr (5, [.ref xe, .ref xn, .int 0, .int 1, .int 1, .ref xso, .ref xro, .int 0, .ref xga, .ref xlo, .int (-1), .ref xse, .ref xwa, .ref xst, .ref xou, .ref xdr])), (o, .inl (cL, 1, .inr (.inl fo)))] sz)) 1 6 (va_A [(x, .inr (5, [.ref xe, .ref xn, .int 0, .int 1, .int 1, .ref xso, .ref xro, .int 0, .ref xga, .ref xlo, .int (-1), .ref xse, .ref xwa, .ref xst, .ref xou, .ref xdr])), (o, .inl (cL, 1, .inr (.inl fo)))] sz) := by
  refine va_MetW (cc := cL_sign) (maxL := 5) (ret := (some .int)) (hh := [(0, 10, 13, 13), (0, 10, 17, 15), (0, 10, 21, 17)]) (by decide) rfl ?_
  intro p e s m args below meth c s₁ B hml hv
  obtain ⟨rfl, hsz, hP, hK, hD0, hG, hZ⟩ := hv
  have hx := B.exec
  have hb := B.bytes
  have hr := B.returns
  have hts := kx_hts (a := #[.ref x, .int p0, .int p1, .ref o]) hG
  have hown : s.vm.findClass RL = some m.cls := findClass_of_methodNamed B.named
  have hlocks := B.notSynchronized
  have htab := vx_table (x := yL_sign) B (bytes := cL_sign) (maxL' := 5) (ret' := (some .int)) (hh := [(0, 10, 13, 13), (0, 10, 17, 15), (0, 10, 21, 17)]) (kx_word hG kq_236 rfl)
  subst hsz
  have hD := hD0.self (sz := s.heap.size)
  generalize hAe : va_A [(x, .inr (5, [.ref xe, .ref xn, .int 0, .int 1, .int 1, .ref xso, .ref xro, .int 0, .ref xga, .ref xlo, .int (-1), .ref xse, .ref xwa, .ref xst, .ref xou, .ref xdr])), (o, .inl (cL, 1, .inr (.inl fo)))] s.heap.size = A at hD hZ ⊢
  have hA : ∀ q : Nat, s.heap.size ≤ q → A q := fun q h => by rw [← hAe]; exact Or.inr h
  have hS : va_S A s.heap s.heap [] := va_S.rf
  have hP : va_P (dC, dI) kxCl [(x, .inr (5, [.ref xe, .ref xn, .int 0, .int 1, .int 1, .ref xso, .ref xro, .int 0, .ref xga, .ref xlo, .int (-1), .ref xse, .ref xwa, .ref xst, .ref xou, .ref xdr])), (o, .inl (cL, 1, .inr (.inl fo)))] s.heap := hP
  have hl := lv_entry ([.ref x, .int p0, .int p1, .ref o]) (n := 5) (Nat.le_of_ble_eq_true rfl)
  rw [lg_entry_eq]
  generalize (lg_sl ([.ref x, .int p0, .int p1, .ref o]) ++ List.replicate (5 - (lg_sl ([.ref x, .int p0, .int p1, .ref o])).length) Slot.unset).toArray = ls at hl ⊢
  have hl : lv_has ls 5 [(0, .ref x), (1, .int p0), (2, .int p1), (3, .ref o)] := hl
  refine lv_aload_n hx hb dL_sign_0 rfl (lv_at hl 3 rfl) ?_
  refine lv_iconst (v := 0) hx hb dL_sign_1 (by decide) ?_
  refine lv_aload_n hx hb dL_sign_2 rfl (lv_at hl 0 rfl) ?_
  refine lv_iload_n hx hb dL_sign_3 rfl (lv_at hl 1 rfl) ?_
  refine lv_iload_n hx hb dL_sign_4 rfl (lv_at hl 2 rfl) ?_
  have hPc := hP.sub (ws' := [(x, .inr (5, [.ref xe, .ref xn, .int 0, .int 1, .int 1, .ref xso, .ref xro, .int 0, .ref xga, .ref xlo, .int (-1), .ref xse, .ref xwa, .ref xst, .ref xou, .ref xdr]))]) [0] rfl
  have hDc := hD.sub (ws' := [(x, .inr (5, [.ref xe, .ref xn, .int 0, .int 1, .int 1, .ref xso, .ref xro, .int 0, .ref xga, .ref xlo, .int (-1), .ref xse, .ref xwa, .ref xst, .ref xou, .ref xdr]))]) [0] (by decide) rfl
  have hKc := hK.sub (tys' := []) [] rfl
  have hFc := va_free (wc := [(x, .inr (5, [.ref xe, .ref xn, .int 0, .int 1, .int 1, .ref xso, .ref xro, .int 0, .ref xga, .ref xlo, .int (-1), .ref xse, .ref xwa, .ref xst, .ref xou, .ref xdr]))]) hD hS hA [0] rfl
  refine vx_calli (vx_runV (As := [.int p0, .int p1]) (rest := [.int 0, .ref o]) ⟨hx, hb, hml, hown, hts⟩ (c_sign l hlf dC dI x xe xn xso xro xga xlo xse xwa xst xou xdr p0 p1 s.heap.size ) (cwV 2 hts (kx_gV kq_237 kq_238 kq_239 kq_92 kq_240 rfl) rfl rfl rfl (by decide +kernel) ⟨Nat.le_of_ble_eq_true rfl, Nat.le_of_ble_eq_true rfl⟩) ⟨kx_blind, va_recv hKc hPc (ci := 5) (q0 := 0) rfl rfl, kx_give (ws := []) (tys := []) hPc hDc hKc hG hZ hS hFc⟩ rfl rfl hl.1 rfl (lv_room (Nat.le_of_ble_eq_true rfl)) dL_sign_5 ⟨Nat.le_of_ble_eq_true rfl, Nat.le_of_ble_eq_true rfl⟩) hS (fun q _ h => hFc q h) hFc (fun q _ h => hFc q h) (fun E ce q9 u t H1 locs ht hvm _ hEx hz1 hk1 hS hcell hcv hcl => ?_) (fun r_1 u t H1 locs ht hvm hw_2 hB hz1 hk1 hS => ?_)
  · skip
    obtain ⟨hP, hD⟩ := va_join (wr := [(o, .inl (cL, 1, .inr (.inl fo)))]) (w1 := []) hP hD [0] [1] rfl rfl (by decide) (by decide) hk1 hFc (fun k q h => by simp at h) ⟨fun i j p q h => by simp at h, fun k q h => by simp at h⟩
    generalize H1 = H at hP hS hcell ⊢
    have hP : va_P (dC, dI) kxCl [(o, .inl (cL, 1, .inr (.inl fo)))] H := hP
    have hD : va_D A [(o, .inl (cL, 1, .inr (.inl fo)))] := hD
    subst hEx
    refine vx_catch (own := RL) (name := "java/util/NoSuchElementException") hown [] ⟨0, 10, 13, 13⟩ [⟨0, 10, 17, 15⟩, ⟨0, 10, 21, 17⟩] (by rw [htab]; rfl) (fun z hz => absurd hz List.not_mem_nil) (by decide) (by decide) (kx_word hG kq_232 rfl) (kx_cast hG kq_233) hcell hcv hcl ?_
    refine W.eq (g2 := F0 m 13 ls [.ref q9]) rfl ?_
    refine W.widen (k := 1) (n := 6) (by omega) (by omega) ?_
    refine lv_astore (lv' := [(4, .ref q9), (0, .ref x), (1, .int p0), (2, .int p1), (3, .ref o)]) hx hb dL_sign_13 hl (by decide) rfl (fun ls hl => ?_)
    refine lv_iconst (v := 1) hx hb dL_sign_15 (by decide) ?_
    have hP9 := hP.sub (ws' := [(o, .inl (cL, 1, .inr (.inl fo)))]) [0] rfl
    have hD9 := hD.sub (ws' := [(o, .inl (cL, 1, .inr (.inl fo)))]) [0] (by decide) rfl
    have hK9 := hK.sub (tys' := [(cL, .long)]) [0] rfl
    exact W.iret (v := 1) hx hb hr (fun t ht hW => ⟨⟨1, (), rfl, rfl, by rw [ht]; exact hP9, va_K.moved hW.alike hK9, hD9⟩, hS.F ht⟩) hS.2.2 dL_sign_16
  · skip
    exact hw_2.elim
set_option maxHeartbeats 4000000 in
set_option maxRecDepth 100000 in
theorem c_L_page (l : Launch) (hlf : l.stackTraces = false) (dC : Nat → ClassId) (dI : Nat → Nat → Nat) (x : Nat) (xe : Nat) (xn : Nat) (xso : Nat) (xro : Nat) (xga : Nat) (xlo : Nat) (xse : Nat) (xwa : Nat) (xst : Nat) (xou : Nat) (xdr : Nat) (p0 : Int32) (p1 : Int32) (p2 : Int32) (o : Nat) (cL : ClassId) (fo : Nat → Int64) (sz : Nat) : Met l yL_page [.codeWith yL_page cL_page 6 (some .int) [(0, 12, 15, 13), (0, 12, 19, 15), (0, 12, 23, 17)]] ({ frames := 9, cells := 1, slots := 6, locals := 146 }) (va_Pc [.ref x, .int p0, .int p1, .int p2, .ref o] (kx_Pre dC dI [(x, .inr (5, [.ref xe, .ref xn, .int 0, .int 1, .int 1, .ref xso, .ref xro, .int 0, .ref xga, .ref xlo, .int (-1), .ref xse, .ref xwa, .ref xst, .ref xou, .ref xdr])), (o, .inl (cL, 1, .inr (.inl fo)))] [(cL, .long)] sz)) (va_Qi (fun (r : Int32) (u : Unit) => match u with | _ => r = 1) (fun (u : Unit) (t : State) => match u with | _ => kx_At dC dI (va_A [(x, .inr (5, [.ref xe, .ref xn, .int 0, .int 1, .int 1, .ref xso, .ref xro, .int 0, .ref xga, .ref xlo, .int (-1), .ref xse, .ref xwa, .ref xst, .ref xou, .ref xdr])), (o, .inl (cL, 1, .inr (.inl fo)))] sz) [(o, .inl (cL, 1, .inr (.inl fo)))] [(cL, .long)] t) (va_A [(x, .inr (5, [.ref xe, .ref xn, .int 0, .int 1, .int 1, .ref xso, .ref xro, .int 0, .ref xga, .ref xlo, .int (-1), .ref xse, .ref xwa, .ref xst, .ref xou, .ref xdr])), (o, .inl (cL, 1, .inr (.inl fo)))] sz)) 1 6 (va_A [(x, .inr (5, [.ref xe, .ref xn, .int 0, .int 1, .int 1, .ref xso, .ref xro, .int 0, .ref xga, .ref xlo, .int (-1), .ref xse, .ref xwa, .ref xst, .ref xou, .ref xdr])), (o, .inl (cL, 1, .inr (.inl fo)))] sz) := by
  refine va_MetW (cc := cL_page) (maxL := 6) (ret := (some .int)) (hh := [(0, 12, 15, 13), (0, 12, 19, 15), (0, 12, 23, 17)]) (by decide) rfl ?_
  intro p e s m args below meth c s₁ B hml hv
  obtain ⟨rfl, hsz, hP, hK, hD0, hG, hZ⟩ := hv
  have hx := B.exec
  have hb := B.bytes
  have hr := B.returns
  have hts := kx_hts (a := #[.ref x, .int p0, .int p1, .int p2, .ref o]) hG
  have hown : s.vm.findClass RL = some m.cls := findClass_of_methodNamed B.named
  have hlocks := B.notSynchronized
  have htab := vx_table (x := yL_page) B (bytes := cL_page) (maxL' := 6) (ret' := (some .int)) (hh := [(0, 12, 15, 13), (0, 12, 19, 15), (0, 12, 23, 17)]) (kx_word hG kq_241 rfl)
  subst hsz
  have hD := hD0.self (sz := s.heap.size)
  generalize hAe : va_A [(x, .inr (5, [.ref xe, .ref xn, .int 0, .int 1, .int 1, .ref xso, .ref xro, .int 0, .ref xga, .ref xlo, .int (-1), .ref xse, .ref xwa, .ref xst, .ref xou, .ref xdr])), (o, .inl (cL, 1, .inr (.inl fo)))] s.heap.size = A at hD hZ ⊢
  have hA : ∀ q : Nat, s.heap.size ≤ q → A q := fun q h => by rw [← hAe]; exact Or.inr h
  have hS : va_S A s.heap s.heap [] := va_S.rf
  have hP : va_P (dC, dI) kxCl [(x, .inr (5, [.ref xe, .ref xn, .int 0, .int 1, .int 1, .ref xso, .ref xro, .int 0, .ref xga, .ref xlo, .int (-1), .ref xse, .ref xwa, .ref xst, .ref xou, .ref xdr])), (o, .inl (cL, 1, .inr (.inl fo)))] s.heap := hP
  have hl := lv_entry ([.ref x, .int p0, .int p1, .int p2, .ref o]) (n := 6) (Nat.le_of_ble_eq_true rfl)
  rw [lg_entry_eq]
  generalize (lg_sl ([.ref x, .int p0, .int p1, .int p2, .ref o]) ++ List.replicate (6 - (lg_sl ([.ref x, .int p0, .int p1, .int p2, .ref o])).length) Slot.unset).toArray = ls at hl ⊢
  have hl : lv_has ls 6 [(0, .ref x), (1, .int p0), (2, .int p1), (3, .int p2), (4, .ref o)] := hl
  refine lv_aload hx hb dL_page_0 (lv_at hl 4 rfl) ?_
  refine lv_iconst (v := 0) hx hb dL_page_2 (by decide) ?_
  refine lv_aload_n hx hb dL_page_3 rfl (lv_at hl 0 rfl) ?_
  refine lv_iload_n hx hb dL_page_4 rfl (lv_at hl 1 rfl) ?_
  refine lv_iload_n hx hb dL_page_5 rfl (lv_at hl 2 rfl) ?_
  refine lv_iload_n hx hb dL_page_6 rfl (lv_at hl 3 rfl) ?_
  have hPc := hP.sub (ws' := [(x, .inr (5, [.ref xe, .ref xn, .int 0, .int 1, .int 1, .ref xso, .ref xro, .int 0, .ref xga, .ref xlo, .int (-1), .ref xse, .ref xwa, .ref xst, .ref xou, .ref xdr]))]) [0] rfl
  have hDc := hD.sub (ws' := [(x, .inr (5, [.ref xe, .ref xn, .int 0, .int 1, .int 1, .ref xso, .ref xro, .int 0, .ref xga, .ref xlo, .int (-1), .ref xse, .ref xwa, .ref xst, .ref xou, .ref xdr]))]) [0] (by decide) rfl
  have hKc := hK.sub (tys' := []) [] rfl
  have hFc := va_free (wc := [(x, .inr (5, [.ref xe, .ref xn, .int 0, .int 1, .int 1, .ref xso, .ref xro, .int 0, .ref xga, .ref xlo, .int (-1), .ref xse, .ref xwa, .ref xst, .ref xou, .ref xdr]))]) hD hS hA [0] rfl
  refine vx_calli (vx_runV (As := [.int p0, .int p1, .int p2]) (rest := [.int 0, .ref o]) ⟨hx, hb, hml, hown, hts⟩ (c_page l hlf dC dI x xe xn xso xro xga xlo xse xwa xst xou xdr p0 p1 p2 s.heap.size ) (cwV 3 hts (kx_gV kq_242 kq_243 kq_244 kq_92 kq_245 rfl) rfl rfl rfl (by decide +kernel) ⟨Nat.le_of_ble_eq_true rfl, Nat.le_of_ble_eq_true rfl⟩) ⟨kx_blind, va_recv hKc hPc (ci := 5) (q0 := 0) rfl rfl, kx_give (ws := []) (tys := []) hPc hDc hKc hG hZ hS hFc⟩ rfl rfl hl.1 rfl (lv_room (Nat.le_of_ble_eq_true rfl)) dL_page_7 ⟨Nat.le_of_ble_eq_true rfl, Nat.le_of_ble_eq_true rfl⟩) hS (fun q _ h => hFc q h) hFc (fun q _ h => hFc q h) (fun E ce q9 u t H1 locs ht hvm _ hEx hz1 hk1 hS hcell hcv hcl => ?_) (fun r_1 u t H1 locs ht hvm hw_2 hB hz1 hk1 hS => ?_)
  · skip
    obtain ⟨hP, hD⟩ := va_join (wr := [(o, .inl (cL, 1, .inr (.inl fo)))]) (w1 := []) hP hD [0] [1] rfl rfl (by decide) (by decide) hk1 hFc (fun k q h => by simp at h) ⟨fun i j p q h => by simp at h, fun k q h => by simp at h⟩
    generalize H1 = H at hP hS hcell ⊢
    have hP : va_P (dC, dI) kxCl [(o, .inl (cL, 1, .inr (.inl fo)))] H := hP
    have hD : va_D A [(o, .inl (cL, 1, .inr (.inl fo)))] := hD
    subst hEx
    refine vx_catch (own := RL) (name := "java/util/NoSuchElementException") hown [] ⟨0, 12, 15, 13⟩ [⟨0, 12, 19, 15⟩, ⟨0, 12, 23, 17⟩] (by rw [htab]; rfl) (fun z hz => absurd hz List.not_mem_nil) (by decide) (by decide) (kx_word hG kq_232 rfl) (kx_cast hG kq_233) hcell hcv hcl ?_
    refine W.eq (g2 := F0 m 15 ls [.ref q9]) rfl ?_
    refine W.widen (k := 1) (n := 6) (by omega) (by omega) ?_
    refine lv_astore (lv' := [(5, .ref q9), (0, .ref x), (1, .int p0), (2, .int p1), (3, .int p2), (4, .ref o)]) hx hb dL_page_15 hl (by decide) rfl (fun ls hl => ?_)
    refine lv_iconst (v := 1) hx hb dL_page_17 (by decide) ?_
    have hP9 := hP.sub (ws' := [(o, .inl (cL, 1, .inr (.inl fo)))]) [0] rfl
    have hD9 := hD.sub (ws' := [(o, .inl (cL, 1, .inr (.inl fo)))]) [0] (by decide) rfl
    have hK9 := hK.sub (tys' := [(cL, .long)]) [0] rfl
    exact W.iret (v := 1) hx hb hr (fun t ht hW => ⟨⟨1, (), rfl, rfl, by rw [ht]; exact hP9, va_K.moved hW.alike hK9, hD9⟩, hS.F ht⟩) hS.2.2 dL_page_18
  · skip
    exact hw_2.elim
set_option maxHeartbeats 4000000 in
set_option maxRecDepth 100000 in
theorem c_L_range (l : Launch) (hlf : l.stackTraces = false) (dC : Nat → ClassId) (dI : Nat → Nat → Nat) (x : Nat) (xe : Nat) (xn : Nat) (xso : Nat) (xro : Nat) (xga : Nat) (xlo : Nat) (xse : Nat) (xwa : Nat) (xst : Nat) (xou : Nat) (xdr : Nat) (p0 : Int32) (p1 : Int32) (p2 : Int32) (o : Nat) (cL : ClassId) (fo : Nat → Int64) (sz : Nat) : Met l yL_range [.codeWith yL_range cL_range 6 (some .int) [(0, 12, 15, 13), (0, 12, 19, 15), (0, 12, 23, 17)]] ({ frames := 9, cells := 1, slots := 6, locals := 147 }) (va_Pc [.ref x, .int p0, .int p1, .int p2, .ref o] (kx_Pre dC dI [(x, .inr (5, [.ref xe, .ref xn, .int 0, .int 1, .int 1, .ref xso, .ref xro, .int 0, .ref xga, .ref xlo, .int (-1), .ref xse, .ref xwa, .ref xst, .ref xou, .ref xdr])), (o, .inl (cL, 1, .inr (.inl fo)))] [(cL, .long)] sz)) (va_Qi (fun (r : Int32) (u : Unit) => match u with | _ => r = 1) (fun (u : Unit) (t : State) => match u with | _ => kx_At dC dI (va_A [(x, .inr (5, [.ref xe, .ref xn, .int 0, .int 1, .int 1, .ref xso, .ref xro, .int 0, .ref xga, .ref xlo, .int (-1), .ref xse, .ref xwa, .ref xst, .ref xou, .ref xdr])), (o, .inl (cL, 1, .inr (.inl fo)))] sz) [(o, .inl (cL, 1, .inr (.inl fo)))] [(cL, .long)] t) (va_A [(x, .inr (5, [.ref xe, .ref xn, .int 0, .int 1, .int 1, .ref xso, .ref xro, .int 0, .ref xga, .ref xlo, .int (-1), .ref xse, .ref xwa, .ref xst, .ref xou, .ref xdr])), (o, .inl (cL, 1, .inr (.inl fo)))] sz)) 1 6 (va_A [(x, .inr (5, [.ref xe, .ref xn, .int 0, .int 1, .int 1, .ref xso, .ref xro, .int 0, .ref xga, .ref xlo, .int (-1), .ref xse, .ref xwa, .ref xst, .ref xou, .ref xdr])), (o, .inl (cL, 1, .inr (.inl fo)))] sz) := by
  refine va_MetW (cc := cL_range) (maxL := 6) (ret := (some .int)) (hh := [(0, 12, 15, 13), (0, 12, 19, 15), (0, 12, 23, 17)]) (by decide) rfl ?_
  intro p e s m args below meth c s₁ B hml hv
  obtain ⟨rfl, hsz, hP, hK, hD0, hG, hZ⟩ := hv
  have hx := B.exec
  have hb := B.bytes
  have hr := B.returns
  have hts := kx_hts (a := #[.ref x, .int p0, .int p1, .int p2, .ref o]) hG
  have hown : s.vm.findClass RL = some m.cls := findClass_of_methodNamed B.named
  have hlocks := B.notSynchronized
  have htab := vx_table (x := yL_range) B (bytes := cL_range) (maxL' := 6) (ret' := (some .int)) (hh := [(0, 12, 15, 13), (0, 12, 19, 15), (0, 12, 23, 17)]) (kx_word hG kq_246 rfl)
  subst hsz
  have hD := hD0.self (sz := s.heap.size)
  generalize hAe : va_A [(x, .inr (5, [.ref xe, .ref xn, .int 0, .int 1, .int 1, .ref xso, .ref xro, .int 0, .ref xga, .ref xlo, .int (-1), .ref xse, .ref xwa, .ref xst, .ref xou, .ref xdr])), (o, .inl (cL, 1, .inr (.inl fo)))] s.heap.size = A at hD hZ ⊢
  have hA : ∀ q : Nat, s.heap.size ≤ q → A q := fun q h => by rw [← hAe]; exact Or.inr h
  have hS : va_S A s.heap s.heap [] := va_S.rf
  have hP : va_P (dC, dI) kxCl [(x, .inr (5, [.ref xe, .ref xn, .int 0, .int 1, .int 1, .ref xso, .ref xro, .int 0, .ref xga, .ref xlo, .int (-1), .ref xse, .ref xwa, .ref xst, .ref xou, .ref xdr])), (o, .inl (cL, 1, .inr (.inl fo)))] s.heap := hP
  have hl := lv_entry ([.ref x, .int p0, .int p1, .int p2, .ref o]) (n := 6) (Nat.le_of_ble_eq_true rfl)
  rw [lg_entry_eq]
  generalize (lg_sl ([.ref x, .int p0, .int p1, .int p2, .ref o]) ++ List.replicate (6 - (lg_sl ([.ref x, .int p0, .int p1, .int p2, .ref o])).length) Slot.unset).toArray = ls at hl ⊢
  have hl : lv_has ls 6 [(0, .ref x), (1, .int p0), (2, .int p1), (3, .int p2), (4, .ref o)] := hl
  refine lv_aload hx hb dL_range_0 (lv_at hl 4 rfl) ?_
  refine lv_iconst (v := 0) hx hb dL_range_2 (by decide) ?_
  refine lv_aload_n hx hb dL_range_3 rfl (lv_at hl 0 rfl) ?_
  refine lv_iload_n hx hb dL_range_4 rfl (lv_at hl 1 rfl) ?_
  refine lv_iload_n hx hb dL_range_5 rfl (lv_at hl 2 rfl) ?_
  refine lv_iload_n hx hb dL_range_6 rfl (lv_at hl 3 rfl) ?_
  have hPc := hP.sub (ws' := [(x, .inr (5, [.ref xe, .ref xn, .int 0, .int 1, .int 1, .ref xso, .ref xro, .int 0, .ref xga, .ref xlo, .int (-1), .ref xse, .ref xwa, .ref xst, .ref xou, .ref xdr]))]) [0] rfl
  have hDc := hD.sub (ws' := [(x, .inr (5, [.ref xe, .ref xn, .int 0, .int 1, .int 1, .ref xso, .ref xro, .int 0, .ref xga, .ref xlo, .int (-1), .ref xse, .ref xwa, .ref xst, .ref xou, .ref xdr]))]) [0] (by decide) rfl
  have hKc := hK.sub (tys' := []) [] rfl
  have hFc := va_free (wc := [(x, .inr (5, [.ref xe, .ref xn, .int 0, .int 1, .int 1, .ref xso, .ref xro, .int 0, .ref xga, .ref xlo, .int (-1), .ref xse, .ref xwa, .ref xst, .ref xou, .ref xdr]))]) hD hS hA [0] rfl
  refine vx_calli (vx_runV (As := [.int p0, .int p1, .int p2]) (rest := [.int 0, .ref o]) ⟨hx, hb, hml, hown, hts⟩ (c_range l hlf dC dI x xe xn xso xro xga xlo xse xwa xst xou xdr p0 p1 p2 s.heap.size ) (cwV 3 hts (kx_gV kq_247 kq_248 kq_249 kq_92 kq_250 rfl) rfl rfl rfl (by decide +kernel) ⟨Nat.le_of_ble_eq_true rfl, Nat.le_of_ble_eq_true rfl⟩) ⟨kx_blind, va_recv hKc hPc (ci := 5) (q0 := 0) rfl rfl, kx_give (ws := []) (tys := []) hPc hDc hKc hG hZ hS hFc⟩ rfl rfl hl.1 rfl (lv_room (Nat.le_of_ble_eq_true rfl)) dL_range_7 ⟨Nat.le_of_ble_eq_true rfl, Nat.le_of_ble_eq_true rfl⟩) hS (fun q _ h => hFc q h) hFc (fun q _ h => hFc q h) (fun E ce q9 u t H1 locs ht hvm _ hEx hz1 hk1 hS hcell hcv hcl => ?_) (fun r_1 u t H1 locs ht hvm hw_2 hB hz1 hk1 hS => ?_)
  · skip
    obtain ⟨hP, hD⟩ := va_join (wr := [(o, .inl (cL, 1, .inr (.inl fo)))]) (w1 := []) hP hD [0] [1] rfl rfl (by decide) (by decide) hk1 hFc (fun k q h => by simp at h) ⟨fun i j p q h => by simp at h, fun k q h => by simp at h⟩
    generalize H1 = H at hP hS hcell ⊢
    have hP : va_P (dC, dI) kxCl [(o, .inl (cL, 1, .inr (.inl fo)))] H := hP
    have hD : va_D A [(o, .inl (cL, 1, .inr (.inl fo)))] := hD
    subst hEx
    refine vx_catch (own := RL) (name := "java/util/NoSuchElementException") hown [] ⟨0, 12, 15, 13⟩ [⟨0, 12, 19, 15⟩, ⟨0, 12, 23, 17⟩] (by rw [htab]; rfl) (fun z hz => absurd hz List.not_mem_nil) (by decide) (by decide) (kx_word hG kq_232 rfl) (kx_cast hG kq_233) hcell hcv hcl ?_
    refine W.eq (g2 := F0 m 15 ls [.ref q9]) rfl ?_
    refine W.widen (k := 1) (n := 6) (by omega) (by omega) ?_
    refine lv_astore (lv' := [(5, .ref q9), (0, .ref x), (1, .int p0), (2, .int p1), (3, .int p2), (4, .ref o)]) hx hb dL_range_15 hl (by decide) rfl (fun ls hl => ?_)
    refine lv_iconst (v := 1) hx hb dL_range_17 (by decide) ?_
    have hP9 := hP.sub (ws' := [(o, .inl (cL, 1, .inr (.inl fo)))]) [0] rfl
    have hD9 := hD.sub (ws' := [(o, .inl (cL, 1, .inr (.inl fo)))]) [0] (by decide) rfl
    have hK9 := hK.sub (tys' := [(cL, .long)]) [0] rfl
    exact W.iret (v := 1) hx hb hr (fun t ht hW => ⟨⟨1, (), rfl, rfl, by rw [ht]; exact hP9, va_K.moved hW.alike hK9, hD9⟩, hS.F ht⟩) hS.2.2 dL_range_18
  · skip
    exact hw_2.elim
set_option maxHeartbeats 4000000 in
set_option maxRecDepth 100000 in
theorem c_L_see (l : Launch) (hlf : l.stackTraces = false) (dC : Nat → ClassId) (dI : Nat → Nat → Nat) (x : Nat) (xe : Nat) (xn : Nat) (xso : Nat) (xro : Nat) (xga : Nat) (xlo : Nat) (xse : Nat) (xwa : Nat) (xst : Nat) (xou : Nat) (xdr : Nat) (p0 : Int32) (p1 : Int32) (o : Nat) (cL : ClassId) (fo : Nat → Int64) (sz : Nat) : Met l yL_see [.codeWith yL_see cL_see 5 (some .int) [(0, 10, 13, 13), (0, 10, 17, 17)]] ({ frames := 9, cells := 1, slots := 6, locals := 144 }) (va_Pc [.ref x, .int p0, .int p1, .ref o] (kx_Pre dC dI [(x, .inr (5, [.ref xe, .ref xn, .int 0, .int 1, .int 1, .ref xso, .ref xro, .int 0, .ref xga, .ref xlo, .int (-1), .ref xse, .ref xwa, .ref xst, .ref xou, .ref xdr])), (o, .inl (cL, 1, .inr (.inl fo)))] [(cL, .long)] sz)) (va_Qi (fun (r : Int32) (u : Unit) => match u with | _ => r = 1) (fun (u : Unit) (t : State) => match u with | _ => kx_At dC dI (va_A [(x, .inr (5, [.ref xe, .ref xn, .int 0, .int 1, .int 1, .ref xso, .ref xro, .int 0, .ref xga, .ref xlo, .int (-1), .ref xse, .ref xwa, .ref xst, .ref xou, .ref xdr])), (o, .inl (cL, 1, .inr (.inl fo)))] sz) [(o, .inl (cL, 1, .inr (.inl fo)))] [(cL, .long)] t) (va_A [(x, .inr (5, [.ref xe, .ref xn, .int 0, .int 1, .int 1, .ref xso, .ref xro, .int 0, .ref xga, .ref xlo, .int (-1), .ref xse, .ref xwa, .ref xst, .ref xou, .ref xdr])), (o, .inl (cL, 1, .inr (.inl fo)))] sz)) 1 6 (va_A [(x, .inr (5, [.ref xe, .ref xn, .int 0, .int 1, .int 1, .ref xso, .ref xro, .int 0, .ref xga, .ref xlo, .int (-1), .ref xse, .ref xwa, .ref xst, .ref xou, .ref xdr])), (o, .inl (cL, 1, .inr (.inl fo)))] sz) := by
  refine va_MetW (cc := cL_see) (maxL := 5) (ret := (some .int)) (hh := [(0, 10, 13, 13), (0, 10, 17, 17)]) (by decide) rfl ?_
  intro p e s m args below meth c s₁ B hml hv
  obtain ⟨rfl, hsz, hP, hK, hD0, hG, hZ⟩ := hv
  have hx := B.exec
  have hb := B.bytes
  have hr := B.returns
  have hts := kx_hts (a := #[.ref x, .int p0, .int p1, .ref o]) hG
  have hown : s.vm.findClass RL = some m.cls := findClass_of_methodNamed B.named
  have hlocks := B.notSynchronized
  have htab := vx_table (x := yL_see) B (bytes := cL_see) (maxL' := 5) (ret' := (some .int)) (hh := [(0, 10, 13, 13), (0, 10, 17, 17)]) (kx_word hG kq_251 rfl)
  subst hsz
  have hD := hD0.self (sz := s.heap.size)
  generalize hAe : va_A [(x, .inr (5, [.ref xe, .ref xn, .int 0, .int 1, .int 1, .ref xso, .ref xro, .int 0, .ref xga, .ref xlo, .int (-1), .ref xse, .ref xwa, .ref xst, .ref xou, .ref xdr])), (o, .inl (cL, 1, .inr (.inl fo)))] s.heap.size = A at hD hZ ⊢
  have hA : ∀ q : Nat, s.heap.size ≤ q → A q := fun q h => by rw [← hAe]; exact Or.inr h
  have hS : va_S A s.heap s.heap [] := va_S.rf
  have hP : va_P (dC, dI) kxCl [(x, .inr (5, [.ref xe, .ref xn, .int 0, .int 1, .int 1, .ref xso, .ref xro, .int 0, .ref xga, .ref xlo, .int (-1), .ref xse, .ref xwa, .ref xst, .ref xou, .ref xdr])), (o, .inl (cL, 1, .inr (.inl fo)))] s.heap := hP
  have hl := lv_entry ([.ref x, .int p0, .int p1, .ref o]) (n := 5) (Nat.le_of_ble_eq_true rfl)
  rw [lg_entry_eq]
  generalize (lg_sl ([.ref x, .int p0, .int p1, .ref o]) ++ List.replicate (5 - (lg_sl ([.ref x, .int p0, .int p1, .ref o])).length) Slot.unset).toArray = ls at hl ⊢
  have hl : lv_has ls 5 [(0, .ref x), (1, .int p0), (2, .int p1), (3, .ref o)] := hl
  refine lv_aload_n hx hb dL_see_0 rfl (lv_at hl 3 rfl) ?_
  refine lv_iconst (v := 0) hx hb dL_see_1 (by decide) ?_
  refine lv_aload_n hx hb dL_see_2 rfl (lv_at hl 0 rfl) ?_
  refine lv_iload_n hx hb dL_see_3 rfl (lv_at hl 1 rfl) ?_
  refine lv_iload_n hx hb dL_see_4 rfl (lv_at hl 2 rfl) ?_
  have hPc := hP.sub (ws' := [(x, .inr (5, [.ref xe, .ref xn, .int 0, .int 1, .int 1, .ref xso, .ref xro, .int 0, .ref xga, .ref xlo, .int (-1), .ref xse, .ref xwa, .ref xst, .ref xou, .ref xdr]))]) [0] rfl
  have hDc := hD.sub (ws' := [(x, .inr (5, [.ref xe, .ref xn, .int 0, .int 1, .int 1, .ref xso, .ref xro, .int 0, .ref xga, .ref xlo, .int (-1), .ref xse, .ref xwa, .ref xst, .ref xou, .ref xdr]))]) [0] (by decide) rfl
  have hKc := hK.sub (tys' := []) [] rfl
  have hFc := va_free (wc := [(x, .inr (5, [.ref xe, .ref xn, .int 0, .int 1, .int 1, .ref xso, .ref xro, .int 0, .ref xga, .ref xlo, .int (-1), .ref xse, .ref xwa, .ref xst, .ref xou, .ref xdr]))]) hD hS hA [0] rfl
  refine vx_calli (vx_runV (As := [.int p0, .int p1]) (rest := [.int 0, .ref o]) ⟨hx, hb, hml, hown, hts⟩ (c_see l hlf dC dI x xe xn xso xro xga xlo xse xwa xst xou xdr p0 p1 s.heap.size ) (cwV 2 hts (kx_gV kq_252 kq_253 kq_254 kq_92 kq_255 rfl) rfl rfl rfl (by decide +kernel) ⟨Nat.le_of_ble_eq_true rfl, Nat.le_of_ble_eq_true rfl⟩) ⟨kx_blind, va_recv hKc hPc (ci := 5) (q0 := 0) rfl rfl, kx_give (ws := []) (tys := []) hPc hDc hKc hG hZ hS hFc⟩ rfl rfl hl.1 rfl (lv_room (Nat.le_of_ble_eq_true rfl)) dL_see_5 ⟨Nat.le_of_ble_eq_true rfl, Nat.le_of_ble_eq_true rfl⟩) hS (fun q _ h => hFc q h) hFc (fun q _ h => hFc q h) (fun E ce q9 u t H1 locs ht hvm _ hEx hz1 hk1 hS hcell hcv hcl => ?_) (fun r_1 u t H1 locs ht hvm hw_2 hB hz1 hk1 hS => ?_)
  · skip
    obtain ⟨hP, hD⟩ := va_join (wr := [(o, .inl (cL, 1, .inr (.inl fo)))]) (w1 := []) hP hD [0] [1] rfl rfl (by decide) (by decide) hk1 hFc (fun k q h => by simp at h) ⟨fun i j p q h => by simp at h, fun k q h => by simp at h⟩
    generalize H1 = H at hP hS hcell ⊢
    have hP : va_P (dC, dI) kxCl [(o, .inl (cL, 1, .inr (.inl fo)))] H := hP
    have hD : va_D A [(o, .inl (cL, 1, .inr (.inl fo)))] := hD
    subst hEx
    refine vx_catch (own := RL) (name := "java/util/NoSuchElementException") hown [] ⟨0, 10, 13, 13⟩ [⟨0, 10, 17, 17⟩] (by rw [htab]; rfl) (fun z hz => absurd hz List.not_mem_nil) (by decide) (by decide) (kx_word hG kq_232 rfl) (kx_cast hG kq_233) hcell hcv hcl ?_
    refine W.eq (g2 := F0 m 13 ls [.ref q9]) rfl ?_
    refine W.widen (k := 1) (n := 6) (by omega) (by omega) ?_
    refine lv_astore (lv' := [(4, .ref q9), (0, .ref x), (1, .int p0), (2, .int p1), (3, .ref o)]) hx hb dL_see_13 hl (by decide) rfl (fun ls hl => ?_)
    refine lv_iconst (v := 1) hx hb dL_see_15 (by decide) ?_
    have hP9 := hP.sub (ws' := [(o, .inl (cL, 1, .inr (.inl fo)))]) [0] rfl
    have hD9 := hD.sub (ws' := [(o, .inl (cL, 1, .inr (.inl fo)))]) [0] (by decide) rfl
    have hK9 := hK.sub (tys' := [(cL, .long)]) [0] rfl
    exact W.iret (v := 1) hx hb hr (fun t ht hW => ⟨⟨1, (), rfl, rfl, by rw [ht]; exact hP9, va_K.moved hW.alike hK9, hD9⟩, hS.F ht⟩) hS.2.2 dL_see_16
  · skip
    exact hw_2.elim
set_option maxHeartbeats 4000000 in
set_option maxRecDepth 100000 in
theorem c_L_compare (l : Launch) (hlf : l.stackTraces = false) (dC : Nat → ClassId) (dI : Nat → Nat → Nat) (x : Nat) (xe : Nat) (xn : Nat) (xso : Nat) (xro : Nat) (xga : Nat) (xlo : Nat) (xse : Nat) (xwa : Nat) (xst : Nat) (xou : Nat) (xdr : Nat) (p0 : Int32) (p1 : Int32) (o : Nat) (cL : ClassId) (fo : Nat → Int64) (sz : Nat) : Met l yL_compare [.codeWith yL_compare cL_compare 5 (some .int) [(0, 10, 13, 13)]] ({ frames := 9, cells := 1, slots := 6, locals := 143 }) (va_Pc [.ref x, .int p0, .int p1, .ref o] (kx_Pre dC dI [(x, .inr (5, [.ref xe, .ref xn, .int 0, .int 1, .int 1, .ref xso, .ref xro, .int 0, .ref xga, .ref xlo, .int (-1), .ref xse, .ref xwa, .ref xst, .ref xou, .ref xdr])), (o, .inl (cL, 1, .inr (.inl fo)))] [(cL, .long)] sz)) (va_Qi (fun (r : Int32) (u : Unit) => match u with | _ => r = 1) (fun (u : Unit) (t : State) => match u with | _ => kx_At dC dI (va_A [(x, .inr (5, [.ref xe, .ref xn, .int 0, .int 1, .int 1, .ref xso, .ref xro, .int 0, .ref xga, .ref xlo, .int (-1), .ref xse, .ref xwa, .ref xst, .ref xou, .ref xdr])), (o, .inl (cL, 1, .inr (.inl fo)))] sz) [(o, .inl (cL, 1, .inr (.inl fo)))] [(cL, .long)] t) (va_A [(x, .inr (5, [.ref xe, .ref xn, .int 0, .int 1, .int 1, .ref xso, .ref xro, .int 0, .ref xga, .ref xlo, .int (-1), .ref xse, .ref xwa, .ref xst, .ref xou, .ref xdr])), (o, .inl (cL, 1, .inr (.inl fo)))] sz)) 1 6 (va_A [(x, .inr (5, [.ref xe, .ref xn, .int 0, .int 1, .int 1, .ref xso, .ref xro, .int 0, .ref xga, .ref xlo, .int (-1), .ref xse, .ref xwa, .ref xst, .ref xou, .ref xdr])), (o, .inl (cL, 1, .inr (.inl fo)))] sz) := by
  refine va_MetW (cc := cL_compare) (maxL := 5) (ret := (some .int)) (hh := [(0, 10, 13, 13)]) (by decide) rfl ?_
  intro p e s m args below meth c s₁ B hml hv
  obtain ⟨rfl, hsz, hP, hK, hD0, hG, hZ⟩ := hv
  have hx := B.exec
  have hb := B.bytes
  have hr := B.returns
  have hts := kx_hts (a := #[.ref x, .int p0, .int p1, .ref o]) hG
  have hown : s.vm.findClass RL = some m.cls := findClass_of_methodNamed B.named
  have hlocks := B.notSynchronized
  have htab := vx_table (x := yL_compare) B (bytes := cL_compare) (maxL' := 5) (ret' := (some .int)) (hh := [(0, 10, 13, 13)]) (kx_word hG kq_256 rfl)
  subst hsz
  have hD := hD0.self (sz := s.heap.size)
  generalize hAe : va_A [(x, .inr (5, [.ref xe, .ref xn, .int 0, .int 1, .int 1, .ref xso, .ref xro, .int 0, .ref xga, .ref xlo, .int (-1), .ref xse, .ref xwa, .ref xst, .ref xou, .ref xdr])), (o, .inl (cL, 1, .inr (.inl fo)))] s.heap.size = A at hD hZ ⊢
  have hA : ∀ q : Nat, s.heap.size ≤ q → A q := fun q h => by rw [← hAe]; exact Or.inr h
  have hS : va_S A s.heap s.heap [] := va_S.rf
  have hP : va_P (dC, dI) kxCl [(x, .inr (5, [.ref xe, .ref xn, .int 0, .int 1, .int 1, .ref xso, .ref xro, .int 0, .ref xga, .ref xlo, .int (-1), .ref xse, .ref xwa, .ref xst, .ref xou, .ref xdr])), (o, .inl (cL, 1, .inr (.inl fo)))] s.heap := hP
  have hl := lv_entry ([.ref x, .int p0, .int p1, .ref o]) (n := 5) (Nat.le_of_ble_eq_true rfl)
  rw [lg_entry_eq]
  generalize (lg_sl ([.ref x, .int p0, .int p1, .ref o]) ++ List.replicate (5 - (lg_sl ([.ref x, .int p0, .int p1, .ref o])).length) Slot.unset).toArray = ls at hl ⊢
  have hl : lv_has ls 5 [(0, .ref x), (1, .int p0), (2, .int p1), (3, .ref o)] := hl
  refine lv_aload_n hx hb dL_compare_0 rfl (lv_at hl 3 rfl) ?_
  refine lv_iconst (v := 0) hx hb dL_compare_1 (by decide) ?_
  refine lv_aload_n hx hb dL_compare_2 rfl (lv_at hl 0 rfl) ?_
  refine lv_iload_n hx hb dL_compare_3 rfl (lv_at hl 1 rfl) ?_
  refine lv_iload_n hx hb dL_compare_4 rfl (lv_at hl 2 rfl) ?_
  have hPc := hP.sub (ws' := [(x, .inr (5, [.ref xe, .ref xn, .int 0, .int 1, .int 1, .ref xso, .ref xro, .int 0, .ref xga, .ref xlo, .int (-1), .ref xse, .ref xwa, .ref xst, .ref xou, .ref xdr]))]) [0] rfl
  have hDc := hD.sub (ws' := [(x, .inr (5, [.ref xe, .ref xn, .int 0, .int 1, .int 1, .ref xso, .ref xro, .int 0, .ref xga, .ref xlo, .int (-1), .ref xse, .ref xwa, .ref xst, .ref xou, .ref xdr]))]) [0] (by decide) rfl
  have hKc := hK.sub (tys' := []) [] rfl
  have hFc := va_free (wc := [(x, .inr (5, [.ref xe, .ref xn, .int 0, .int 1, .int 1, .ref xso, .ref xro, .int 0, .ref xga, .ref xlo, .int (-1), .ref xse, .ref xwa, .ref xst, .ref xou, .ref xdr]))]) hD hS hA [0] rfl
  refine vx_calli (vx_runV (As := [.int p0, .int p1]) (rest := [.int 0, .ref o]) ⟨hx, hb, hml, hown, hts⟩ (c_compare l hlf dC dI x xe xn xso xro xga xlo xse xwa xst xou xdr p0 p1 s.heap.size ) (cwV 2 hts (kx_gV kq_257 kq_258 kq_259 kq_92 kq_260 rfl) rfl rfl rfl (by decide +kernel) ⟨Nat.le_of_ble_eq_true rfl, Nat.le_of_ble_eq_true rfl⟩) ⟨kx_blind, va_recv hKc hPc (ci := 5) (q0 := 0) rfl rfl, kx_give (ws := []) (tys := []) hPc hDc hKc hG hZ hS hFc⟩ rfl rfl hl.1 rfl (lv_room (Nat.le_of_ble_eq_true rfl)) dL_compare_5 ⟨Nat.le_of_ble_eq_true rfl, Nat.le_of_ble_eq_true rfl⟩) hS (fun q _ h => hFc q h) hFc (fun q _ h => hFc q h) (fun E ce q9 u t H1 locs ht hvm _ hEx hz1 hk1 hS hcell hcv hcl => ?_) (fun r_1 u t H1 locs ht hvm hw_2 hB hz1 hk1 hS => ?_)
  · skip
    obtain ⟨hP, hD⟩ := va_join (wr := [(o, .inl (cL, 1, .inr (.inl fo)))]) (w1 := []) hP hD [0] [1] rfl rfl (by decide) (by decide) hk1 hFc (fun k q h => by simp at h) ⟨fun i j p q h => by simp at h, fun k q h => by simp at h⟩
    generalize H1 = H at hP hS hcell ⊢
    have hP : va_P (dC, dI) kxCl [(o, .inl (cL, 1, .inr (.inl fo)))] H := hP
    have hD : va_D A [(o, .inl (cL, 1, .inr (.inl fo)))] := hD
    subst hEx
    refine vx_catch (own := RL) (name := "java/util/NoSuchElementException") hown [] ⟨0, 10, 13, 13⟩ [] (by rw [htab]; rfl) (fun z hz => absurd hz List.not_mem_nil) (by decide) (by decide) (kx_word hG kq_232 rfl) (kx_cast hG kq_233) hcell hcv hcl ?_
    refine W.eq (g2 := F0 m 13 ls [.ref q9]) rfl ?_
    refine W.widen (k := 1) (n := 6) (by omega) (by omega) ?_
    refine lv_astore (lv' := [(4, .ref q9), (0, .ref x), (1, .int p0), (2, .int p1), (3, .ref o)]) hx hb dL_compare_13 hl (by decide) rfl (fun ls hl => ?_)
    refine lv_iconst (v := 1) hx hb dL_compare_15 (by decide) ?_
    have hP9 := hP.sub (ws' := [(o, .inl (cL, 1, .inr (.inl fo)))]) [0] rfl
    have hD9 := hD.sub (ws' := [(o, .inl (cL, 1, .inr (.inl fo)))]) [0] (by decide) rfl
    have hK9 := hK.sub (tys' := [(cL, .long)]) [0] rfl
    exact W.iret (v := 1) hx hb hr (fun t ht hW => ⟨⟨1, (), rfl, rfl, by rw [ht]; exact hP9, va_K.moved hW.alike hK9, hD9⟩, hS.F ht⟩) hS.2.2 dL_compare_16
  · skip
    exact hw_2.elim
set_option maxHeartbeats 4000000 in
set_option maxRecDepth 100000 in
theorem c_L_rule (l : Launch) (hlf : l.stackTraces = false) (dC : Nat → ClassId) (dI : Nat → Nat → Nat) (x : Nat) (xe : Nat) (xn : Nat) (xso : Nat) (xro : Nat) (xga : Nat) (xlo : Nat) (xse : Nat) (xwa : Nat) (xst : Nat) (xou : Nat) (xdr : Nat) (w : Int32) (on : Int32) (o : Nat) (cL : ClassId) (fo : Nat → Int64) (sz : Nat) (hbz : narrow .boolean (.int on) = .int on) (hbf : fits .boolean (.int on) = true) : Met l yL_rule [.codeWith yL_rule cL_rule 5 (some .int) [(0, 10, 13, 15)]] ({ frames := 8, cells := 1, slots := 6, locals := 123 }) (va_Pc [.ref x, .int w, .int on, .ref o] (kx_Pre dC dI [(x, .inr (5, [.ref xe, .ref xn, .int 0, .int 1, .int 1, .ref xso, .ref xro, .int 0, .ref xga, .ref xlo, .int (-1), .ref xse, .ref xwa, .ref xst, .ref xou, .ref xdr])), (o, .inl (cL, 1, .inr (.inl fo)))] [(cL, .long)] sz)) (va_Qi (fun (r : Int32) (u : (Nat → Int64)) => match u with | fo1 => r = ek_rule w ∧ (ek_rule w = 0 → fo1 0 = Int32.toInt64 (1))) (fun (u : (Nat → Int64)) (t : State) => match u with | fo1 => kx_At dC dI (va_A [(x, .inr (5, [.ref xe, .ref xn, .int 0, .int 1, .int 1, .ref xso, .ref xro, .int 0, .ref xga, .ref xlo, .int (-1), .ref xse, .ref xwa, .ref xst, .ref xou, .ref xdr])), (o, .inl (cL, 1, .inr (.inl fo)))] sz) [(o, .inl (cL, 1, .inr (.inl fo1)))] [(cL, .long)] t) (va_A [(x, .inr (5, [.ref xe, .ref xn, .int 0, .int 1, .int 1, .ref xso, .ref xro, .int 0, .ref xga, .ref xlo, .int (-1), .ref xse, .ref xwa, .ref xst, .ref xou, .ref xdr])), (o, .inl (cL, 1, .inr (.inl fo)))] sz)) 1 6 (va_A [(x, .inr (5, [.ref xe, .ref xn, .int 0, .int 1, .int 1, .ref xso, .ref xro, .int 0, .ref xga, .ref xlo, .int (-1), .ref xse, .ref xwa, .ref xst, .ref xou, .ref xdr])), (o, .inl (cL, 1, .inr (.inl fo)))] sz) := by
  refine va_MetW (cc := cL_rule) (maxL := 5) (ret := (some .int)) (hh := [(0, 10, 13, 15)]) (by decide) rfl ?_
  intro p e s m args below meth c s₁ B hml hv
  obtain ⟨rfl, hsz, hP, hK, hD0, hG, hZ⟩ := hv
  have hx := B.exec
  have hb := B.bytes
  have hr := B.returns
  have hts := kx_hts (a := #[.ref x, .int w, .int on, .ref o]) hG
  have hown : s.vm.findClass RL = some m.cls := findClass_of_methodNamed B.named
  have hlocks := B.notSynchronized
  have htab := vx_table (x := yL_rule) B (bytes := cL_rule) (maxL' := 5) (ret' := (some .int)) (hh := [(0, 10, 13, 15)]) (kx_word hG kq_261 rfl)
  subst hsz
  have hD := hD0.self (sz := s.heap.size)
  generalize hAe : va_A [(x, .inr (5, [.ref xe, .ref xn, .int 0, .int 1, .int 1, .ref xso, .ref xro, .int 0, .ref xga, .ref xlo, .int (-1), .ref xse, .ref xwa, .ref xst, .ref xou, .ref xdr])), (o, .inl (cL, 1, .inr (.inl fo)))] s.heap.size = A at hD hZ ⊢
  have hA : ∀ q : Nat, s.heap.size ≤ q → A q := fun q h => by rw [← hAe]; exact Or.inr h
  have hS : va_S A s.heap s.heap [] := va_S.rf
  have hP : va_P (dC, dI) kxCl [(x, .inr (5, [.ref xe, .ref xn, .int 0, .int 1, .int 1, .ref xso, .ref xro, .int 0, .ref xga, .ref xlo, .int (-1), .ref xse, .ref xwa, .ref xst, .ref xou, .ref xdr])), (o, .inl (cL, 1, .inr (.inl fo)))] s.heap := hP
  have hl := lv_entry ([.ref x, .int w, .int on, .ref o]) (n := 5) (Nat.le_of_ble_eq_true rfl)
  rw [lg_entry_eq]
  generalize (lg_sl ([.ref x, .int w, .int on, .ref o]) ++ List.replicate (5 - (lg_sl ([.ref x, .int w, .int on, .ref o])).length) Slot.unset).toArray = ls at hl ⊢
  have hl : lv_has ls 5 [(0, .ref x), (1, .int w), (2, .int on), (3, .ref o)] := hl
  refine lv_aload_n hx hb dL_rule_0 rfl (lv_at hl 3 rfl) ?_
  refine lv_iconst (v := 0) hx hb dL_rule_1 (by decide) ?_
  refine lv_aload_n hx hb dL_rule_2 rfl (lv_at hl 0 rfl) ?_
  refine lv_iload_n hx hb dL_rule_3 rfl (lv_at hl 1 rfl) ?_
  refine lv_iload_n hx hb dL_rule_4 rfl (lv_at hl 2 rfl) ?_
  have hPc := hP.sub (ws' := [(x, .inr (5, [.ref xe, .ref xn, .int 0, .int 1, .int 1, .ref xso, .ref xro, .int 0, .ref xga, .ref xlo, .int (-1), .ref xse, .ref xwa, .ref xst, .ref xou, .ref xdr]))]) [0] rfl
  have hDc := hD.sub (ws' := [(x, .inr (5, [.ref xe, .ref xn, .int 0, .int 1, .int 1, .ref xso, .ref xro, .int 0, .ref xga, .ref xlo, .int (-1), .ref xse, .ref xwa, .ref xst, .ref xou, .ref xdr]))]) [0] (by decide) rfl
  have hKc := hK.sub (tys' := []) [] rfl
  have hFc := va_free (wc := [(x, .inr (5, [.ref xe, .ref xn, .int 0, .int 1, .int 1, .ref xso, .ref xro, .int 0, .ref xga, .ref xlo, .int (-1), .ref xse, .ref xwa, .ref xst, .ref xou, .ref xdr]))]) hD hS hA [0] rfl
  refine vx_calli (vx_runV (As := [.int w, .int on]) (rest := [.int 0, .ref o]) ⟨hx, hb, hml, hown, hts⟩ (c_rule l hlf dC dI x xe xn xso xro xga xlo xse xwa xst xou xdr w on s.heap.size hbz hbf) (cwV 2 hts (kx_gV kq_262 kq_263 kq_264 kq_92 kq_265 rfl) rfl rfl rfl (by decide +kernel) ⟨Nat.le_of_ble_eq_true rfl, Nat.le_of_ble_eq_true rfl⟩) ⟨kx_blind, va_recv hKc hPc (ci := 5) (q0 := 0) rfl rfl, kx_give (ws := []) (tys := []) hPc hDc hKc hG hZ hS hFc⟩ rfl rfl hl.1 rfl (lv_room (Nat.le_of_ble_eq_true rfl)) dL_rule_5 ⟨Nat.le_of_ble_eq_true rfl, Nat.le_of_ble_eq_true rfl⟩) hS (fun q _ h => hFc q h) hFc (fun q _ h => hFc q h) (fun E ce q9 u t H1 locs ht hvm _ hEx hz1 hk1 hS hcell hcv hcl => ?_) (fun r_1 u t H1 locs ht hvm hw_2 hB hz1 hk1 hS => ?_)
  · skip
    obtain ⟨hP, hD⟩ := va_join (wr := [(o, .inl (cL, 1, .inr (.inl fo)))]) (w1 := []) hP hD [0] [1] rfl rfl (by decide) (by decide) hk1 hFc (fun k q h => by simp at h) ⟨fun i j p q h => by simp at h, fun k q h => by simp at h⟩
    generalize H1 = H at hP hS hcell ⊢
    have hP : va_P (dC, dI) kxCl [(o, .inl (cL, 1, .inr (.inl fo)))] H := hP
    have hD : va_D A [(o, .inl (cL, 1, .inr (.inl fo)))] := hD
    obtain ⟨rfl, hek⟩ := hEx
    refine vx_catch (own := RL) (name := "java/lang/IllegalArgumentException") hown [] ⟨0, 10, 13, 15⟩ [] (by rw [htab]; rfl) (fun z hz => absurd hz List.not_mem_nil) (by decide) (by decide) (kx_word hG kq_234 rfl) (kx_cast hG kq_235) hcell hcv hcl ?_
    refine W.eq (g2 := F0 m 13 ls [.ref q9]) rfl ?_
    refine W.widen (k := 1) (n := 6) (by omega) (by omega) ?_
    refine lv_astore (lv' := [(4, .ref q9), (0, .ref x), (1, .int w), (2, .int on), (3, .ref o)]) hx hb dL_rule_13 hl (by decide) rfl (fun ls hl => ?_)
    refine lv_iconst (v := 1) hx hb dL_rule_15 (by decide) ?_
    have hP9 := hP.sub (ws' := [(o, .inl (cL, 1, .inr (.inl fo)))]) [0] rfl
    have hD9 := hD.sub (ws' := [(o, .inl (cL, 1, .inr (.inl fo)))]) [0] (by decide) rfl
    have hK9 := hK.sub (tys' := [(cL, .long)]) [0] rfl
    exact W.iret (v := 1) hx hb hr (fun t ht hW => ⟨⟨1, (fo), rfl, ⟨hek.symm, fun h => absurd (hek.symm.trans h) (by decide)⟩, by rw [ht]; exact hP9, va_K.moved hW.alike hK9, hD9⟩, hS.F ht⟩) hS.2.2 dL_rule_16
  · skip
    obtain ⟨hP1, hK1, hD1⟩ := hB
    rw [ht] at hP1
    have hK1 := va_K.moved hvm.symm hK1
    try dsimp only at hw_2
    obtain ⟨hP, hD⟩ := va_join (wr := [(o, .inl (cL, 1, .inr (.inl fo)))]) (w1 := []) hP hD [0] [1] rfl rfl (by decide) (by decide) hk1 hFc hP1 hD1
    have hK := (hK.sub (tys' := [(cL, .long)]) [0] rfl).app hK1
    generalize H1 = H at hP hS ⊢
    have hP : va_P (dC, dI) kxCl [(o, .inl (cL, 1, .inr (.inl fo)))] H := hP
    have hD : va_D A [(o, .inl (cL, 1, .inr (.inl fo)))] := hD
    have hK : va_K (dC, dI) kxCl [(cL, .long)] s := hK
    refine W.widen (k := 1) (n := 6) (by omega) (by omega) ?_
    obtain ⟨hr_1, hw_2⟩ := hw_2
    subst hr_1
    refine lv_i2l (v := Int32.toInt64 1) hx hb dL_rule_8 rfl ?_
    refine va_last hx hb hK hP hD hS 0 0 rfl rfl (show vp_in 0 1 by unfold vp_in; decide) dL_rule_9 (fun H locs hP hD hS => ?_)
    have hP : va_P (dC, dI) kxCl [(o, .inl (cL, 1, .inr (.inl (vp_updL fo (0 : Int32).toNatClampNeg (Int32.toInt64 1)))))] H := hP
    have hD : va_D A [(o, .inl (cL, 1, .inr (.inl (vp_updL fo (0 : Int32).toNatClampNeg (Int32.toInt64 1)))))] := hD
    refine lv_goto (tgt := 17) hx hb dL_rule_10 (by decide) ?_
    refine lv_iconst (v := 0) hx hb dL_rule_17 (by decide) ?_
    have hP9 := hP.sub (ws' := [(o, .inl (cL, 1, .inr (.inl (vp_updL fo (0 : Int32).toNatClampNeg (Int32.toInt64 1)))))]) [0] rfl
    have hD9 := hD.sub (ws' := [(o, .inl (cL, 1, .inr (.inl (vp_updL fo (0 : Int32).toNatClampNeg (Int32.toInt64 1)))))]) [0] (by decide) rfl
    have hK9 := hK.sub (tys' := [(cL, .long)]) [0] rfl
    exact W.iret (v := 0) hx hb hr (fun t ht hW => ⟨⟨0, (vp_updL fo (0 : Int32).toNatClampNeg (Int32.toInt64 1)), rfl, ⟨hw_2.symm, fun _ => kz_upd _ _⟩, by rw [ht]; exact hP9, va_K.moved hW.alike hK9, hD9⟩, hS.F ht⟩) hS.2.2 dL_rule_18
set_option maxHeartbeats 4000000 in
set_option maxRecDepth 100000 in
theorem c_L_row (l : Launch) (hlf : l.stackTraces = false) (dC : Nat → ClassId) (dI : Nat → Nat → Nat) (x : Nat) (xe : Nat) (xn : Nat) (xso : Nat) (xro : Nat) (xga : Nat) (xlo : Nat) (xse : Nat) (xwa : Nat) (xst : Nat) (xou : Nat) (xdr : Nat) (xr1 : Nat) (xr2 : Nat) (p0 : Int32) (p1 : Int32) (o : Nat) (cL : ClassId) (fo : Nat → Int64) (sz : Nat) : Met l yL_row [.codeWith yL_row cL_row 5 (some .int) [(0, 10, 13, 40)]] ({ frames := 8, cells := 1, slots := 6, locals := 123 }) (va_Pc [.ref x, .int p0, .int p1, .ref o] (kx_Pre dC dI [(x, .inr (5, [.ref xe, .ref xn, .int 0, .int 1, .int 1, .ref xso, .ref xro, .int 0, .ref xga, .ref xlo, .int (-1), .ref xse, .ref xwa, .ref xst, .ref xou, .ref xdr])), (xso, .inr (1, [.int 80, .ref xr1, .int 0])), (xro, .inr (1, [.int 80, .ref xr2, .int 0])), (o, .inl (cL, 1, .inr (.inl fo)))] [(cL, .long)] sz)) (va_Qi (fun (r : Int32) (u : Unit) => match u with | _ => r = 1) (fun (u : Unit) (t : State) => match u with | _ => kx_At dC dI (va_A [(x, .inr (5, [.ref xe, .ref xn, .int 0, .int 1, .int 1, .ref xso, .ref xro, .int 0, .ref xga, .ref xlo, .int (-1), .ref xse, .ref xwa, .ref xst, .ref xou, .ref xdr])), (xso, .inr (1, [.int 80, .ref xr1, .int 0])), (xro, .inr (1, [.int 80, .ref xr2, .int 0])), (o, .inl (cL, 1, .inr (.inl fo)))] sz) [(o, .inl (cL, 1, .inr (.inl fo)))] [(cL, .long)] t) (va_A [(x, .inr (5, [.ref xe, .ref xn, .int 0, .int 1, .int 1, .ref xso, .ref xro, .int 0, .ref xga, .ref xlo, .int (-1), .ref xse, .ref xwa, .ref xst, .ref xou, .ref xdr])), (xso, .inr (1, [.int 80, .ref xr1, .int 0])), (xro, .inr (1, [.int 80, .ref xr2, .int 0])), (o, .inl (cL, 1, .inr (.inl fo)))] sz)) 1 6 (va_A [(x, .inr (5, [.ref xe, .ref xn, .int 0, .int 1, .int 1, .ref xso, .ref xro, .int 0, .ref xga, .ref xlo, .int (-1), .ref xse, .ref xwa, .ref xst, .ref xou, .ref xdr])), (xso, .inr (1, [.int 80, .ref xr1, .int 0])), (xro, .inr (1, [.int 80, .ref xr2, .int 0])), (o, .inl (cL, 1, .inr (.inl fo)))] sz) := by
  refine va_MetW (cc := cL_row) (maxL := 5) (ret := (some .int)) (hh := [(0, 10, 13, 40)]) (by decide) rfl ?_
  intro p e s m args below meth c s₁ B hml hv
  obtain ⟨rfl, hsz, hP, hK, hD0, hG, hZ⟩ := hv
  have hx := B.exec
  have hb := B.bytes
  have hr := B.returns
  have hts := kx_hts (a := #[.ref x, .int p0, .int p1, .ref o]) hG
  have hown : s.vm.findClass RL = some m.cls := findClass_of_methodNamed B.named
  have hlocks := B.notSynchronized
  have htab := vx_table (x := yL_row) B (bytes := cL_row) (maxL' := 5) (ret' := (some .int)) (hh := [(0, 10, 13, 40)]) (kx_word hG kq_266 rfl)
  subst hsz
  have hD := hD0.self (sz := s.heap.size)
  generalize hAe : va_A [(x, .inr (5, [.ref xe, .ref xn, .int 0, .int 1, .int 1, .ref xso, .ref xro, .int 0, .ref xga, .ref xlo, .int (-1), .ref xse, .ref xwa, .ref xst, .ref xou, .ref xdr])), (xso, .inr (1, [.int 80, .ref xr1, .int 0])), (xro, .inr (1, [.int 80, .ref xr2, .int 0])), (o, .inl (cL, 1, .inr (.inl fo)))] s.heap.size = A at hD hZ ⊢
  have hA : ∀ q : Nat, s.heap.size ≤ q → A q := fun q h => by rw [← hAe]; exact Or.inr h
  have hS : va_S A s.heap s.heap [] := va_S.rf
  have hP : va_P (dC, dI) kxCl [(x, .inr (5, [.ref xe, .ref xn, .int 0, .int 1, .int 1, .ref xso, .ref xro, .int 0, .ref xga, .ref xlo, .int (-1), .ref xse, .ref xwa, .ref xst, .ref xou, .ref xdr])), (xso, .inr (1, [.int 80, .ref xr1, .int 0])), (xro, .inr (1, [.int 80, .ref xr2, .int 0])), (o, .inl (cL, 1, .inr (.inl fo)))] s.heap := hP
  have hl := lv_entry ([.ref x, .int p0, .int p1, .ref o]) (n := 5) (Nat.le_of_ble_eq_true rfl)
  rw [lg_entry_eq]
  generalize (lg_sl ([.ref x, .int p0, .int p1, .ref o]) ++ List.replicate (5 - (lg_sl ([.ref x, .int p0, .int p1, .ref o])).length) Slot.unset).toArray = ls at hl ⊢
  have hl : lv_has ls 5 [(0, .ref x), (1, .int p0), (2, .int p1), (3, .ref o)] := hl
  refine lv_aload_n hx hb dL_row_0 rfl (lv_at hl 3 rfl) ?_
  refine lv_iconst (v := 0) hx hb dL_row_1 (by decide) ?_
  refine lv_aload_n hx hb dL_row_2 rfl (lv_at hl 0 rfl) ?_
  refine lv_iload_n hx hb dL_row_3 rfl (lv_at hl 1 rfl) ?_
  refine lv_iload_n hx hb dL_row_4 rfl (lv_at hl 2 rfl) ?_
  have hPc := hP.sub (ws' := [(x, .inr (5, [.ref xe, .ref xn, .int 0, .int 1, .int 1, .ref xso, .ref xro, .int 0, .ref xga, .ref xlo, .int (-1), .ref xse, .ref xwa, .ref xst, .ref xou, .ref xdr])), (xso, .inr (1, [.int 80, .ref xr1, .int 0])), (xro, .inr (1, [.int 80, .ref xr2, .int 0]))]) [0, 1, 2] rfl
  have hDc := hD.sub (ws' := [(x, .inr (5, [.ref xe, .ref xn, .int 0, .int 1, .int 1, .ref xso, .ref xro, .int 0, .ref xga, .ref xlo, .int (-1), .ref xse, .ref xwa, .ref xst, .ref xou, .ref xdr])), (xso, .inr (1, [.int 80, .ref xr1, .int 0])), (xro, .inr (1, [.int 80, .ref xr2, .int 0]))]) [0, 1, 2] (by decide) rfl
  have hKc := hK.sub (tys' := []) [] rfl
  have hFc := va_free (wc := [(x, .inr (5, [.ref xe, .ref xn, .int 0, .int 1, .int 1, .ref xso, .ref xro, .int 0, .ref xga, .ref xlo, .int (-1), .ref xse, .ref xwa, .ref xst, .ref xou, .ref xdr])), (xso, .inr (1, [.int 80, .ref xr1, .int 0])), (xro, .inr (1, [.int 80, .ref xr2, .int 0]))]) hD hS hA [0, 1, 2] rfl
  refine vx_calli (vx_runV (As := [.int p0, .int p1]) (rest := [.int 0, .ref o]) ⟨hx, hb, hml, hown, hts⟩ (c_row l hlf dC dI x xe xn xso xro xga xlo xse xwa xst xou xdr xr1 xr2 p0 p1 s.heap.size ) (cwV 2 hts (kx_gV kq_267 kq_268 kq_269 kq_92 kq_270 rfl) rfl rfl rfl (by decide +kernel) ⟨Nat.le_of_ble_eq_true rfl, Nat.le_of_ble_eq_true rfl⟩) ⟨kx_blind, va_recv hKc hPc (ci := 5) (q0 := 0) rfl rfl, kx_give (ws := []) (tys := []) hPc hDc hKc hG hZ hS hFc⟩ rfl rfl hl.1 rfl (lv_room (Nat.le_of_ble_eq_true rfl)) dL_row_5 ⟨Nat.le_of_ble_eq_true rfl, Nat.le_of_ble_eq_true rfl⟩) hS (fun q _ h => hFc q h) hFc (fun q _ h => hFc q h) (fun E ce q9 u t H1 locs ht hvm _ hEx hz1 hk1 hS hcell hcv hcl => ?_) (fun r_1 u t H1 locs ht hvm hw_2 hB hz1 hk1 hS => ?_)
  · skip
    obtain ⟨hP, hD⟩ := va_join (wr := [(o, .inl (cL, 1, .inr (.inl fo)))]) (w1 := []) hP hD [0, 1, 2] [3] rfl rfl (by decide) (by decide) hk1 hFc (fun k q h => by simp at h) ⟨fun i j p q h => by simp at h, fun k q h => by simp at h⟩
    generalize H1 = H at hP hS hcell ⊢
    have hP : va_P (dC, dI) kxCl [(o, .inl (cL, 1, .inr (.inl fo)))] H := hP
    have hD : va_D A [(o, .inl (cL, 1, .inr (.inl fo)))] := hD
    subst hEx
    refine vx_catch (own := RL) (name := "java/lang/IndexOutOfBoundsException") hown [] ⟨0, 10, 13, 40⟩ [] (by rw [htab]; rfl) (fun z hz => absurd hz List.not_mem_nil) (by decide) (by decide) (kx_word hG kq_271 rfl) (kx_cast hG kq_272) hcell hcv hcl ?_
    refine W.eq (g2 := F0 m 13 ls [.ref q9]) rfl ?_
    refine W.widen (k := 1) (n := 6) (by omega) (by omega) ?_
    refine lv_astore (lv' := [(4, .ref q9), (0, .ref x), (1, .int p0), (2, .int p1), (3, .ref o)]) hx hb dL_row_13 hl (by decide) rfl (fun ls hl => ?_)
    refine lv_iconst (v := 1) hx hb dL_row_15 (by decide) ?_
    have hP9 := hP.sub (ws' := [(o, .inl (cL, 1, .inr (.inl fo)))]) [0] rfl
    have hD9 := hD.sub (ws' := [(o, .inl (cL, 1, .inr (.inl fo)))]) [0] (by decide) rfl
    have hK9 := hK.sub (tys' := [(cL, .long)]) [0] rfl
    exact W.iret (v := 1) hx hb hr (fun t ht hW => ⟨⟨1, (), rfl, rfl, by rw [ht]; exact hP9, va_K.moved hW.alike hK9, hD9⟩, hS.F ht⟩) hS.2.2 dL_row_16
  · skip
    exact hw_2.elim
set_option maxHeartbeats 4000000 in
set_option maxRecDepth 100000 in
theorem c_L_locator (l : Launch) (hlf : l.stackTraces = false) (dC : Nat → ClassId) (dI : Nat → Nat → Nat) (x : Nat) (xe : Nat) (xn : Nat) (xso : Nat) (xro : Nat) (xga : Nat) (xlo : Nat) (xse : Nat) (xwa : Nat) (xst : Nat) (xou : Nat) (xdr : Nat) (xr1 : Nat) (xr2 : Nat) (p0 : Int32) (p1 : Int32) (p2 : Int32) (o : Nat) (cL : ClassId) (fo : Nat → Int64) (sz : Nat) : Met l yL_locator [.codeWith yL_locator cL_locator 6 (some .int) [(0, 12, 15, 40)]] ({ frames := 8, cells := 1, slots := 6, locals := 124 }) (va_Pc [.ref x, .int p0, .int p1, .int p2, .ref o] (kx_Pre dC dI [(x, .inr (5, [.ref xe, .ref xn, .int 0, .int 1, .int 1, .ref xso, .ref xro, .int 0, .ref xga, .ref xlo, .int (-1), .ref xse, .ref xwa, .ref xst, .ref xou, .ref xdr])), (xso, .inr (1, [.int 80, .ref xr1, .int 0])), (xro, .inr (1, [.int 80, .ref xr2, .int 0])), (o, .inl (cL, 1, .inr (.inl fo)))] [(cL, .long)] sz)) (va_Qi (fun (r : Int32) (u : Unit) => match u with | _ => r = 1) (fun (u : Unit) (t : State) => match u with | _ => kx_At dC dI (va_A [(x, .inr (5, [.ref xe, .ref xn, .int 0, .int 1, .int 1, .ref xso, .ref xro, .int 0, .ref xga, .ref xlo, .int (-1), .ref xse, .ref xwa, .ref xst, .ref xou, .ref xdr])), (xso, .inr (1, [.int 80, .ref xr1, .int 0])), (xro, .inr (1, [.int 80, .ref xr2, .int 0])), (o, .inl (cL, 1, .inr (.inl fo)))] sz) [(o, .inl (cL, 1, .inr (.inl fo)))] [(cL, .long)] t) (va_A [(x, .inr (5, [.ref xe, .ref xn, .int 0, .int 1, .int 1, .ref xso, .ref xro, .int 0, .ref xga, .ref xlo, .int (-1), .ref xse, .ref xwa, .ref xst, .ref xou, .ref xdr])), (xso, .inr (1, [.int 80, .ref xr1, .int 0])), (xro, .inr (1, [.int 80, .ref xr2, .int 0])), (o, .inl (cL, 1, .inr (.inl fo)))] sz)) 1 6 (va_A [(x, .inr (5, [.ref xe, .ref xn, .int 0, .int 1, .int 1, .ref xso, .ref xro, .int 0, .ref xga, .ref xlo, .int (-1), .ref xse, .ref xwa, .ref xst, .ref xou, .ref xdr])), (xso, .inr (1, [.int 80, .ref xr1, .int 0])), (xro, .inr (1, [.int 80, .ref xr2, .int 0])), (o, .inl (cL, 1, .inr (.inl fo)))] sz) := by
  refine va_MetW (cc := cL_locator) (maxL := 6) (ret := (some .int)) (hh := [(0, 12, 15, 40)]) (by decide) rfl ?_
  intro p e s m args below meth c s₁ B hml hv
  obtain ⟨rfl, hsz, hP, hK, hD0, hG, hZ⟩ := hv
  have hx := B.exec
  have hb := B.bytes
  have hr := B.returns
  have hts := kx_hts (a := #[.ref x, .int p0, .int p1, .int p2, .ref o]) hG
  have hown : s.vm.findClass RL = some m.cls := findClass_of_methodNamed B.named
  have hlocks := B.notSynchronized
  have htab := vx_table (x := yL_locator) B (bytes := cL_locator) (maxL' := 6) (ret' := (some .int)) (hh := [(0, 12, 15, 40)]) (kx_word hG kq_273 rfl)
  subst hsz
  have hD := hD0.self (sz := s.heap.size)
  generalize hAe : va_A [(x, .inr (5, [.ref xe, .ref xn, .int 0, .int 1, .int 1, .ref xso, .ref xro, .int 0, .ref xga, .ref xlo, .int (-1), .ref xse, .ref xwa, .ref xst, .ref xou, .ref xdr])), (xso, .inr (1, [.int 80, .ref xr1, .int 0])), (xro, .inr (1, [.int 80, .ref xr2, .int 0])), (o, .inl (cL, 1, .inr (.inl fo)))] s.heap.size = A at hD hZ ⊢
  have hA : ∀ q : Nat, s.heap.size ≤ q → A q := fun q h => by rw [← hAe]; exact Or.inr h
  have hS : va_S A s.heap s.heap [] := va_S.rf
  have hP : va_P (dC, dI) kxCl [(x, .inr (5, [.ref xe, .ref xn, .int 0, .int 1, .int 1, .ref xso, .ref xro, .int 0, .ref xga, .ref xlo, .int (-1), .ref xse, .ref xwa, .ref xst, .ref xou, .ref xdr])), (xso, .inr (1, [.int 80, .ref xr1, .int 0])), (xro, .inr (1, [.int 80, .ref xr2, .int 0])), (o, .inl (cL, 1, .inr (.inl fo)))] s.heap := hP
  have hl := lv_entry ([.ref x, .int p0, .int p1, .int p2, .ref o]) (n := 6) (Nat.le_of_ble_eq_true rfl)
  rw [lg_entry_eq]
  generalize (lg_sl ([.ref x, .int p0, .int p1, .int p2, .ref o]) ++ List.replicate (6 - (lg_sl ([.ref x, .int p0, .int p1, .int p2, .ref o])).length) Slot.unset).toArray = ls at hl ⊢
  have hl : lv_has ls 6 [(0, .ref x), (1, .int p0), (2, .int p1), (3, .int p2), (4, .ref o)] := hl
  refine lv_aload hx hb dL_locator_0 (lv_at hl 4 rfl) ?_
  refine lv_iconst (v := 0) hx hb dL_locator_2 (by decide) ?_
  refine lv_aload_n hx hb dL_locator_3 rfl (lv_at hl 0 rfl) ?_
  refine lv_iload_n hx hb dL_locator_4 rfl (lv_at hl 1 rfl) ?_
  refine lv_iload_n hx hb dL_locator_5 rfl (lv_at hl 2 rfl) ?_
  refine lv_iload_n hx hb dL_locator_6 rfl (lv_at hl 3 rfl) ?_
  have hPc := hP.sub (ws' := [(x, .inr (5, [.ref xe, .ref xn, .int 0, .int 1, .int 1, .ref xso, .ref xro, .int 0, .ref xga, .ref xlo, .int (-1), .ref xse, .ref xwa, .ref xst, .ref xou, .ref xdr])), (xso, .inr (1, [.int 80, .ref xr1, .int 0])), (xro, .inr (1, [.int 80, .ref xr2, .int 0]))]) [0, 1, 2] rfl
  have hDc := hD.sub (ws' := [(x, .inr (5, [.ref xe, .ref xn, .int 0, .int 1, .int 1, .ref xso, .ref xro, .int 0, .ref xga, .ref xlo, .int (-1), .ref xse, .ref xwa, .ref xst, .ref xou, .ref xdr])), (xso, .inr (1, [.int 80, .ref xr1, .int 0])), (xro, .inr (1, [.int 80, .ref xr2, .int 0]))]) [0, 1, 2] (by decide) rfl
  have hKc := hK.sub (tys' := []) [] rfl
  have hFc := va_free (wc := [(x, .inr (5, [.ref xe, .ref xn, .int 0, .int 1, .int 1, .ref xso, .ref xro, .int 0, .ref xga, .ref xlo, .int (-1), .ref xse, .ref xwa, .ref xst, .ref xou, .ref xdr])), (xso, .inr (1, [.int 80, .ref xr1, .int 0])), (xro, .inr (1, [.int 80, .ref xr2, .int 0]))]) hD hS hA [0, 1, 2] rfl
  refine vx_calli (vx_runV (As := [.int p0, .int p1, .int p2]) (rest := [.int 0, .ref o]) ⟨hx, hb, hml, hown, hts⟩ (c_locator l hlf dC dI x xe xn xso xro xga xlo xse xwa xst xou xdr xr1 xr2 p0 p1 p2 s.heap.size ) (cwV 3 hts (kx_gV kq_274 kq_275 kq_276 kq_92 kq_277 rfl) rfl rfl rfl (by decide +kernel) ⟨Nat.le_of_ble_eq_true rfl, Nat.le_of_ble_eq_true rfl⟩) ⟨kx_blind, va_recv hKc hPc (ci := 5) (q0 := 0) rfl rfl, kx_give (ws := []) (tys := []) hPc hDc hKc hG hZ hS hFc⟩ rfl rfl hl.1 rfl (lv_room (Nat.le_of_ble_eq_true rfl)) dL_locator_7 ⟨Nat.le_of_ble_eq_true rfl, Nat.le_of_ble_eq_true rfl⟩) hS (fun q _ h => hFc q h) hFc (fun q _ h => hFc q h) (fun E ce q9 u t H1 locs ht hvm _ hEx hz1 hk1 hS hcell hcv hcl => ?_) (fun r_1 u t H1 locs ht hvm hw_2 hB hz1 hk1 hS => ?_)
  · skip
    obtain ⟨hP, hD⟩ := va_join (wr := [(o, .inl (cL, 1, .inr (.inl fo)))]) (w1 := []) hP hD [0, 1, 2] [3] rfl rfl (by decide) (by decide) hk1 hFc (fun k q h => by simp at h) ⟨fun i j p q h => by simp at h, fun k q h => by simp at h⟩
    generalize H1 = H at hP hS hcell ⊢
    have hP : va_P (dC, dI) kxCl [(o, .inl (cL, 1, .inr (.inl fo)))] H := hP
    have hD : va_D A [(o, .inl (cL, 1, .inr (.inl fo)))] := hD
    subst hEx
    refine vx_catch (own := RL) (name := "java/lang/IndexOutOfBoundsException") hown [] ⟨0, 12, 15, 40⟩ [] (by rw [htab]; rfl) (fun z hz => absurd hz List.not_mem_nil) (by decide) (by decide) (kx_word hG kq_271 rfl) (kx_cast hG kq_272) hcell hcv hcl ?_
    refine W.eq (g2 := F0 m 15 ls [.ref q9]) rfl ?_
    refine W.widen (k := 1) (n := 6) (by omega) (by omega) ?_
    refine lv_astore (lv' := [(5, .ref q9), (0, .ref x), (1, .int p0), (2, .int p1), (3, .int p2), (4, .ref o)]) hx hb dL_locator_15 hl (by decide) rfl (fun ls hl => ?_)
    refine lv_iconst (v := 1) hx hb dL_locator_17 (by decide) ?_
    have hP9 := hP.sub (ws' := [(o, .inl (cL, 1, .inr (.inl fo)))]) [0] rfl
    have hD9 := hD.sub (ws' := [(o, .inl (cL, 1, .inr (.inl fo)))]) [0] (by decide) rfl
    have hK9 := hK.sub (tys' := [(cL, .long)]) [0] rfl
    exact W.iret (v := 1) hx hb hr (fun t ht hW => ⟨⟨1, (), rfl, rfl, by rw [ht]; exact hP9, va_K.moved hW.alike hK9, hD9⟩, hS.F ht⟩) hS.2.2 dL_locator_18
  · skip
    exact hw_2.elim
set_option maxHeartbeats 4000000 in
set_option maxRecDepth 100000 in
theorem c_L_told (l : Launch) (hlf : l.stackTraces = false) (dC : Nat → ClassId) (dI : Nat → Nat → Nat) (x : Nat) (xe : Nat) (xn : Nat) (xso : Nat) (xro : Nat) (xga : Nat) (xlo : Nat) (xse : Nat) (xwa : Nat) (xst : Nat) (xou : Nat) (xdr : Nat) (xr1 : Nat) (xr2 : Nat) (p0 : Int32) (p1 : Int32) (o : Nat) (cL : ClassId) (fo : Nat → Int64) (sz : Nat) : Met l yL_told [.codeWith yL_told cL_told 5 (some .int) [(0, 10, 13, 40)]] ({ frames := 8, cells := 1, slots := 6, locals := 123 }) (va_Pc [.ref x, .int p0, .int p1, .ref o] (kx_Pre dC dI [(x, .inr (5, [.ref xe, .ref xn, .int 0, .int 1, .int 1, .ref xso, .ref xro, .int 0, .ref xga, .ref xlo, .int (-1), .ref xse, .ref xwa, .ref xst, .ref xou, .ref xdr])), (xso, .inr (1, [.int 80, .ref xr1, .int 0])), (xro, .inr (1, [.int 80, .ref xr2, .int 0])), (xwa, .inr (4, [.int (-1), .int 0, .int 0, .int 0, .int 0])), (o, .inl (cL, 1, .inr (.inl fo)))] [(cL, .long)] sz)) (va_Qi (fun (r : Int32) (u : (Nat → Int64)) => match u with | fo1 => r = ek_told p0 ∧ (ek_told p0 = 0 → fo1 0 = Int32.toInt64 (0))) (fun (u : (Nat → Int64)) (t : State) => match u with | fo1 => kx_At dC dI (va_A [(x, .inr (5, [.ref xe, .ref xn, .int 0, .int 1, .int 1, .ref xso, .ref xro, .int 0, .ref xga, .ref xlo, .int (-1), .ref xse, .ref xwa, .ref xst, .ref xou, .ref xdr])), (xso, .inr (1, [.int 80, .ref xr1, .int 0])), (xro, .inr (1, [.int 80, .ref xr2, .int 0])), (xwa, .inr (4, [.int (-1), .int 0, .int 0, .int 0, .int 0])), (o, .inl (cL, 1, .inr (.inl fo)))] sz) [(o, .inl (cL, 1, .inr (.inl fo1)))] [(cL, .long)] t) (va_A [(x, .inr (5, [.ref xe, .ref xn, .int 0, .int 1, .int 1, .ref xso, .ref xro, .int 0, .ref xga, .ref xlo, .int (-1), .ref xse, .ref xwa, .ref xst, .ref xou, .ref xdr])), (xso, .inr (1, [.int 80, .ref xr1, .int 0])), (xro, .inr (1, [.int 80, .ref xr2, .int 0])), (xwa, .inr (4, [.int (-1), .int 0, .int 0, .int 0, .int 0])), (o, .inl (cL, 1, .inr (.inl fo)))] sz)) 1 6 (va_A [(x, .inr (5, [.ref xe, .ref xn, .int 0, .int 1, .int 1, .ref xso, .ref xro, .int 0, .ref xga, .ref xlo, .int (-1), .ref xse, .ref xwa, .ref xst, .ref xou, .ref xdr])), (xso, .inr (1, [.int 80, .ref xr1, .int 0])), (xro, .inr (1, [.int 80, .ref xr2, .int 0])), (xwa, .inr (4, [.int (-1), .int 0, .int 0, .int 0, .int 0])), (o, .inl (cL, 1, .inr (.inl fo)))] sz) := by
  refine va_MetW (cc := cL_told) (maxL := 5) (ret := (some .int)) (hh := [(0, 10, 13, 40)]) (by decide) rfl ?_
  intro p e s m args below meth c s₁ B hml hv
  obtain ⟨rfl, hsz, hP, hK, hD0, hG, hZ⟩ := hv
  have hx := B.exec
  have hb := B.bytes
  have hr := B.returns
  have hts := kx_hts (a := #[.ref x, .int p0, .int p1, .ref o]) hG
  have hown : s.vm.findClass RL = some m.cls := findClass_of_methodNamed B.named
  have hlocks := B.notSynchronized
  have htab := vx_table (x := yL_told) B (bytes := cL_told) (maxL' := 5) (ret' := (some .int)) (hh := [(0, 10, 13, 40)]) (kx_word hG kq_278 rfl)
  subst hsz
  have hD := hD0.self (sz := s.heap.size)
  generalize hAe : va_A [(x, .inr (5, [.ref xe, .ref xn, .int 0, .int 1, .int 1, .ref xso, .ref xro, .int 0, .ref xga, .ref xlo, .int (-1), .ref xse, .ref xwa, .ref xst, .ref xou, .ref xdr])), (xso, .inr (1, [.int 80, .ref xr1, .int 0])), (xro, .inr (1, [.int 80, .ref xr2, .int 0])), (xwa, .inr (4, [.int (-1), .int 0, .int 0, .int 0, .int 0])), (o, .inl (cL, 1, .inr (.inl fo)))] s.heap.size = A at hD hZ ⊢
  have hA : ∀ q : Nat, s.heap.size ≤ q → A q := fun q h => by rw [← hAe]; exact Or.inr h
  have hS : va_S A s.heap s.heap [] := va_S.rf
  have hP : va_P (dC, dI) kxCl [(x, .inr (5, [.ref xe, .ref xn, .int 0, .int 1, .int 1, .ref xso, .ref xro, .int 0, .ref xga, .ref xlo, .int (-1), .ref xse, .ref xwa, .ref xst, .ref xou, .ref xdr])), (xso, .inr (1, [.int 80, .ref xr1, .int 0])), (xro, .inr (1, [.int 80, .ref xr2, .int 0])), (xwa, .inr (4, [.int (-1), .int 0, .int 0, .int 0, .int 0])), (o, .inl (cL, 1, .inr (.inl fo)))] s.heap := hP
  have hl := lv_entry ([.ref x, .int p0, .int p1, .ref o]) (n := 5) (Nat.le_of_ble_eq_true rfl)
  rw [lg_entry_eq]
  generalize (lg_sl ([.ref x, .int p0, .int p1, .ref o]) ++ List.replicate (5 - (lg_sl ([.ref x, .int p0, .int p1, .ref o])).length) Slot.unset).toArray = ls at hl ⊢
  have hl : lv_has ls 5 [(0, .ref x), (1, .int p0), (2, .int p1), (3, .ref o)] := hl
  refine lv_aload_n hx hb dL_told_0 rfl (lv_at hl 3 rfl) ?_
  refine lv_iconst (v := 0) hx hb dL_told_1 (by decide) ?_
  refine lv_aload_n hx hb dL_told_2 rfl (lv_at hl 0 rfl) ?_
  refine lv_iload_n hx hb dL_told_3 rfl (lv_at hl 1 rfl) ?_
  refine lv_iload_n hx hb dL_told_4 rfl (lv_at hl 2 rfl) ?_
  have hPc := hP.sub (ws' := [(x, .inr (5, [.ref xe, .ref xn, .int 0, .int 1, .int 1, .ref xso, .ref xro, .int 0, .ref xga, .ref xlo, .int (-1), .ref xse, .ref xwa, .ref xst, .ref xou, .ref xdr])), (xso, .inr (1, [.int 80, .ref xr1, .int 0])), (xro, .inr (1, [.int 80, .ref xr2, .int 0])), (xwa, .inr (4, [.int (-1), .int 0, .int 0, .int 0, .int 0]))]) [0, 1, 2, 3] rfl
  have hDc := hD.sub (ws' := [(x, .inr (5, [.ref xe, .ref xn, .int 0, .int 1, .int 1, .ref xso, .ref xro, .int 0, .ref xga, .ref xlo, .int (-1), .ref xse, .ref xwa, .ref xst, .ref xou, .ref xdr])), (xso, .inr (1, [.int 80, .ref xr1, .int 0])), (xro, .inr (1, [.int 80, .ref xr2, .int 0])), (xwa, .inr (4, [.int (-1), .int 0, .int 0, .int 0, .int 0]))]) [0, 1, 2, 3] (by decide) rfl
  have hKc := hK.sub (tys' := []) [] rfl
  have hFc := va_free (wc := [(x, .inr (5, [.ref xe, .ref xn, .int 0, .int 1, .int 1, .ref xso, .ref xro, .int 0, .ref xga, .ref xlo, .int (-1), .ref xse, .ref xwa, .ref xst, .ref xou, .ref xdr])), (xso, .inr (1, [.int 80, .ref xr1, .int 0])), (xro, .inr (1, [.int 80, .ref xr2, .int 0])), (xwa, .inr (4, [.int (-1), .int 0, .int 0, .int 0, .int 0]))]) hD hS hA [0, 1, 2, 3] rfl
  refine vx_calli (vx_runV (As := [.int p0, .int p1]) (rest := [.int 0, .ref o]) ⟨hx, hb, hml, hown, hts⟩ (c_told l hlf dC dI x xe xn xso xro xga xlo xse xwa xst xou xdr xr1 xr2 p0 p1 s.heap.size ) (cwV 2 hts (kx_gV kq_279 kq_280 kq_281 kq_92 kq_282 rfl) rfl rfl rfl (by decide +kernel) ⟨Nat.le_of_ble_eq_true rfl, Nat.le_of_ble_eq_true rfl⟩) ⟨kx_blind, va_recv hKc hPc (ci := 5) (q0 := 0) rfl rfl, kx_give (ws := []) (tys := []) hPc hDc hKc hG hZ hS hFc⟩ rfl rfl hl.1 rfl (lv_room (Nat.le_of_ble_eq_true rfl)) dL_told_5 ⟨Nat.le_of_ble_eq_true rfl, Nat.le_of_ble_eq_true rfl⟩) hS (fun q _ h => hFc q h) hFc (fun q _ h => hFc q h) (fun E ce q9 u t H1 locs ht hvm _ hEx hz1 hk1 hS hcell hcv hcl => ?_) (fun r_1 u t H1 locs ht hvm hw_2 hB hz1 hk1 hS => ?_)
  · skip
    obtain ⟨hP, hD⟩ := va_join (wr := [(o, .inl (cL, 1, .inr (.inl fo)))]) (w1 := []) hP hD [0, 1, 2, 3] [4] rfl rfl (by decide) (by decide) hk1 hFc (fun k q h => by simp at h) ⟨fun i j p q h => by simp at h, fun k q h => by simp at h⟩
    generalize H1 = H at hP hS hcell ⊢
    have hP : va_P (dC, dI) kxCl [(o, .inl (cL, 1, .inr (.inl fo)))] H := hP
    have hD : va_D A [(o, .inl (cL, 1, .inr (.inl fo)))] := hD
    obtain ⟨rfl, hek⟩ := hEx
    refine vx_catch (own := RL) (name := "java/lang/IndexOutOfBoundsException") hown [] ⟨0, 10, 13, 40⟩ [] (by rw [htab]; rfl) (fun z hz => absurd hz List.not_mem_nil) (by decide) (by decide) (kx_word hG kq_271 rfl) (kx_cast hG kq_272) hcell hcv hcl ?_
    refine W.eq (g2 := F0 m 13 ls [.ref q9]) rfl ?_
    refine W.widen (k := 1) (n := 6) (by omega) (by omega) ?_
    refine lv_astore (lv' := [(4, .ref q9), (0, .ref x), (1, .int p0), (2, .int p1), (3, .ref o)]) hx hb dL_told_13 hl (by decide) rfl (fun ls hl => ?_)
    refine lv_iconst (v := 1) hx hb dL_told_15 (by decide) ?_
    have hP9 := hP.sub (ws' := [(o, .inl (cL, 1, .inr (.inl fo)))]) [0] rfl
    have hD9 := hD.sub (ws' := [(o, .inl (cL, 1, .inr (.inl fo)))]) [0] (by decide) rfl
    have hK9 := hK.sub (tys' := [(cL, .long)]) [0] rfl
    exact W.iret (v := 1) hx hb hr (fun t ht hW => ⟨⟨1, (fo), rfl, ⟨hek.symm, fun h => absurd (hek.symm.trans h) (by decide)⟩, by rw [ht]; exact hP9, va_K.moved hW.alike hK9, hD9⟩, hS.F ht⟩) hS.2.2 dL_told_16
  · skip
    obtain ⟨hP1, hK1, hD1⟩ := hB
    rw [ht] at hP1
    have hK1 := va_K.moved hvm.symm hK1
    try dsimp only at hw_2
    obtain ⟨hP, hD⟩ := va_join (wr := [(o, .inl (cL, 1, .inr (.inl fo)))]) (w1 := []) hP hD [0, 1, 2, 3] [4] rfl rfl (by decide) (by decide) hk1 hFc hP1 hD1
    have hK := (hK.sub (tys' := [(cL, .long)]) [0] rfl).app hK1
    generalize H1 = H at hP hS ⊢
    have hP : va_P (dC, dI) kxCl [(o, .inl (cL, 1, .inr (.inl fo)))] H := hP
    have hD : va_D A [(o, .inl (cL, 1, .inr (.inl fo)))] := hD
    have hK : va_K (dC, dI) kxCl [(cL, .long)] s := hK
    refine W.widen (k := 1) (n := 6) (by omega) (by omega) ?_
    obtain ⟨hr_1, hw_2⟩ := hw_2
    subst hr_1
    refine lv_i2l (v := Int32.toInt64 0) hx hb dL_told_8 rfl ?_
    refine va_last hx hb hK hP hD hS 0 0 rfl rfl (show vp_in 0 1 by unfold vp_in; decide) dL_told_9 (fun H locs hP hD hS => ?_)
    have hP : va_P (dC, dI) kxCl [(o, .inl (cL, 1, .inr (.inl (vp_updL fo (0 : Int32).toNatClampNeg (Int32.toInt64 0)))))] H := hP
    have hD : va_D A [(o, .inl (cL, 1, .inr (.inl (vp_updL fo (0 : Int32).toNatClampNeg (Int32.toInt64 0)))))] := hD
    refine lv_goto (tgt := 17) hx hb dL_told_10 (by decide) ?_
    refine lv_iconst (v := 0) hx hb dL_told_17 (by decide) ?_
    have hP9 := hP.sub (ws' := [(o, .inl (cL, 1, .inr (.inl (vp_updL fo (0 : Int32).toNatClampNeg (Int32.toInt64 0)))))]) [0] rfl
    have hD9 := hD.sub (ws' := [(o, .inl (cL, 1, .inr (.inl (vp_updL fo (0 : Int32).toNatClampNeg (Int32.toInt64 0)))))]) [0] (by decide) rfl
    have hK9 := hK.sub (tys' := [(cL, .long)]) [0] rfl
    exact W.iret (v := 0) hx hb hr (fun t ht hW => ⟨⟨0, (vp_updL fo (0 : Int32).toNatClampNeg (Int32.toInt64 0)), rfl, ⟨hw_2.symm, fun _ => kz_upd _ _⟩, by rw [ht]; exact hP9, va_K.moved hW.alike hK9, hD9⟩, hS.F ht⟩) hS.2.2 dL_told_18
set_option maxHeartbeats 4000000 in
set_option maxRecDepth 100000 in
theorem c_L_style (l : Launch) (hlf : l.stackTraces = false) (dC : Nat → ClassId) (dI : Nat → Nat → Nat) (x : Nat) (xe : Nat) (xn : Nat) (xso : Nat) (xro : Nat) (xga : Nat) (xlo : Nat) (xse : Nat) (xwa : Nat) (xst : Nat) (xou : Nat) (xdr : Nat) (xr3 : Nat) (cI : ClassId) (c0 : Int32) (o : Nat) (cL : ClassId) (fo : Nat → Int64) (sz : Nat) : Met l yL_style [.codeWith yL_style cL_style 4 (some .int) [(0, 9, 12, 15), (0, 9, 15, 17)]] ({ frames := 8, cells := 1, slots := 6, locals := 124 }) (va_Pc [.ref x, .int c0, .ref o] (kx_Pre dC dI [(x, .inr (5, [.ref xe, .ref xn, .int 0, .int 1, .int 1, .ref xso, .ref xro, .int 0, .ref xga, .ref xlo, .int (-1), .ref xse, .ref xwa, .ref xst, .ref xou, .ref xdr])), (xst, .inr (1, [.int 80, .ref xr3, .int 0])), (xr3, .inl (cI, 0, .inl (fun _ => 0))), (o, .inl (cL, 1, .inr (.inl fo)))] [(cI, .int), (cL, .long)] sz)) (va_Qi (fun (r : Int32) (u : (Nat → Int64)) => match u with | fo1 => r = ek_style c0 ∧ (ek_style c0 = 0 → fo1 0 = Int32.toInt64 (ev_style c0))) (fun (u : (Nat → Int64)) (t : State) => match u with | fo1 => kx_At dC dI (va_A [(x, .inr (5, [.ref xe, .ref xn, .int 0, .int 1, .int 1, .ref xso, .ref xro, .int 0, .ref xga, .ref xlo, .int (-1), .ref xse, .ref xwa, .ref xst, .ref xou, .ref xdr])), (xst, .inr (1, [.int 80, .ref xr3, .int 0])), (xr3, .inl (cI, 0, .inl (fun _ => 0))), (o, .inl (cL, 1, .inr (.inl fo)))] sz) [(o, .inl (cL, 1, .inr (.inl fo1)))] [(cL, .long)] t) (va_A [(x, .inr (5, [.ref xe, .ref xn, .int 0, .int 1, .int 1, .ref xso, .ref xro, .int 0, .ref xga, .ref xlo, .int (-1), .ref xse, .ref xwa, .ref xst, .ref xou, .ref xdr])), (xst, .inr (1, [.int 80, .ref xr3, .int 0])), (xr3, .inl (cI, 0, .inl (fun _ => 0))), (o, .inl (cL, 1, .inr (.inl fo)))] sz)) 1 6 (va_A [(x, .inr (5, [.ref xe, .ref xn, .int 0, .int 1, .int 1, .ref xso, .ref xro, .int 0, .ref xga, .ref xlo, .int (-1), .ref xse, .ref xwa, .ref xst, .ref xou, .ref xdr])), (xst, .inr (1, [.int 80, .ref xr3, .int 0])), (xr3, .inl (cI, 0, .inl (fun _ => 0))), (o, .inl (cL, 1, .inr (.inl fo)))] sz) := by
  refine va_MetW (cc := cL_style) (maxL := 4) (ret := (some .int)) (hh := [(0, 9, 12, 15), (0, 9, 15, 17)]) (by decide) rfl ?_
  intro p e s m args below meth c s₁ B hml hv
  obtain ⟨rfl, hsz, hP, hK, hD0, hG, hZ⟩ := hv
  have hx := B.exec
  have hb := B.bytes
  have hr := B.returns
  have hts := kx_hts (a := #[.ref x, .int c0, .ref o]) hG
  have hown : s.vm.findClass RL = some m.cls := findClass_of_methodNamed B.named
  have hlocks := B.notSynchronized
  have htab := vx_table (x := yL_style) B (bytes := cL_style) (maxL' := 4) (ret' := (some .int)) (hh := [(0, 9, 12, 15), (0, 9, 15, 17)]) (kx_word hG kq_283 rfl)
  subst hsz
  have hD := hD0.self (sz := s.heap.size)
  generalize hAe : va_A [(x, .inr (5, [.ref xe, .ref xn, .int 0, .int 1, .int 1, .ref xso, .ref xro, .int 0, .ref xga, .ref xlo, .int (-1), .ref xse, .ref xwa, .ref xst, .ref xou, .ref xdr])), (xst, .inr (1, [.int 80, .ref xr3, .int 0])), (xr3, .inl (cI, 0, .inl (fun _ => 0))), (o, .inl (cL, 1, .inr (.inl fo)))] s.heap.size = A at hD hZ ⊢
  have hA : ∀ q : Nat, s.heap.size ≤ q → A q := fun q h => by rw [← hAe]; exact Or.inr h
  have hS : va_S A s.heap s.heap [] := va_S.rf
  have hP : va_P (dC, dI) kxCl [(x, .inr (5, [.ref xe, .ref xn, .int 0, .int 1, .int 1, .ref xso, .ref xro, .int 0, .ref xga, .ref xlo, .int (-1), .ref xse, .ref xwa, .ref xst, .ref xou, .ref xdr])), (xst, .inr (1, [.int 80, .ref xr3, .int 0])), (xr3, .inl (cI, 0, .inl (fun _ => 0))), (o, .inl (cL, 1, .inr (.inl fo)))] s.heap := hP
  have hl := lv_entry ([.ref x, .int c0, .ref o]) (n := 4) (Nat.le_of_ble_eq_true rfl)
  rw [lg_entry_eq]
  generalize (lg_sl ([.ref x, .int c0, .ref o]) ++ List.replicate (4 - (lg_sl ([.ref x, .int c0, .ref o])).length) Slot.unset).toArray = ls at hl ⊢
  have hl : lv_has ls 4 [(0, .ref x), (1, .int c0), (2, .ref o)] := hl
  refine lv_aload_n hx hb dL_style_0 rfl (lv_at hl 2 rfl) ?_
  refine lv_iconst (v := 0) hx hb dL_style_1 (by decide) ?_
  refine lv_aload_n hx hb dL_style_2 rfl (lv_at hl 0 rfl) ?_
  refine lv_iload_n hx hb dL_style_3 rfl (lv_at hl 1 rfl) ?_
  have hPc := hP.sub (ws' := [(x, .inr (5, [.ref xe, .ref xn, .int 0, .int 1, .int 1, .ref xso, .ref xro, .int 0, .ref xga, .ref xlo, .int (-1), .ref xse, .ref xwa, .ref xst, .ref xou, .ref xdr])), (xst, .inr (1, [.int 80, .ref xr3, .int 0])), (xr3, .inl (cI, 0, .inl (fun _ => 0)))]) [0, 1, 2] rfl
  have hDc := hD.sub (ws' := [(x, .inr (5, [.ref xe, .ref xn, .int 0, .int 1, .int 1, .ref xso, .ref xro, .int 0, .ref xga, .ref xlo, .int (-1), .ref xse, .ref xwa, .ref xst, .ref xou, .ref xdr])), (xst, .inr (1, [.int 80, .ref xr3, .int 0])), (xr3, .inl (cI, 0, .inl (fun _ => 0)))]) [0, 1, 2] (by decide) rfl
  have hKc := hK.sub (tys' := [(cI, .int)]) [0] rfl
  have hFc := va_free (wc := [(x, .inr (5, [.ref xe, .ref xn, .int 0, .int 1, .int 1, .ref xso, .ref xro, .int 0, .ref xga, .ref xlo, .int (-1), .ref xse, .ref xwa, .ref xst, .ref xou, .ref xdr])), (xst, .inr (1, [.int 80, .ref xr3, .int 0])), (xr3, .inl (cI, 0, .inl (fun _ => 0)))]) hD hS hA [0, 1, 2] rfl
  refine vx_calli (vx_runV (As := [.int c0]) (rest := [.int 0, .ref o]) ⟨hx, hb, hml, hown, hts⟩ (c_style l hlf dC dI x xe xn xso xro xga xlo xse xwa xst xou xdr xr3 cI c0 s.heap.size ) (cwV 1 hts (kx_gV kq_284 kq_285 kq_286 kq_92 kq_287 rfl) rfl rfl rfl (by decide +kernel) ⟨Nat.le_of_ble_eq_true rfl, Nat.le_of_ble_eq_true rfl⟩) ⟨kx_blind, va_recv hKc hPc (ci := 5) (q0 := 0) rfl rfl, kx_give (ws := []) (tys := []) hPc hDc hKc hG hZ hS hFc⟩ rfl rfl hl.1 rfl (lv_room (Nat.le_of_ble_eq_true rfl)) dL_style_4 ⟨Nat.le_of_ble_eq_true rfl, Nat.le_of_ble_eq_true rfl⟩) hS (fun q _ h => hFc q h) hFc (fun q _ h => hFc q h) (fun E ce q9 u t H1 locs ht hvm _ hEx hz1 hk1 hS hcell hcv hcl => ?_) (fun r_1 u t H1 locs ht hvm hw_2 hB hz1 hk1 hS => ?_)
  · skip
    obtain ⟨hP, hD⟩ := va_join (wr := [(o, .inl (cL, 1, .inr (.inl fo)))]) (w1 := []) hP hD [0, 1, 2] [3] rfl rfl (by decide) (by decide) hk1 hFc (fun k q h => by simp at h) ⟨fun i j p q h => by simp at h, fun k q h => by simp at h⟩
    generalize H1 = H at hP hS hcell ⊢
    have hP : va_P (dC, dI) kxCl [(o, .inl (cL, 1, .inr (.inl fo)))] H := hP
    have hD : va_D A [(o, .inl (cL, 1, .inr (.inl fo)))] := hD
    obtain ⟨rfl, hek⟩ := hEx
    refine vx_catch (own := RL) (name := "java/lang/IllegalArgumentException") hown [] ⟨0, 9, 12, 15⟩ [⟨0, 9, 15, 17⟩] (by rw [htab]; rfl) (fun z hz => absurd hz List.not_mem_nil) (by decide) (by decide) (kx_word hG kq_234 rfl) (kx_cast hG kq_235) hcell hcv hcl ?_
    refine W.eq (g2 := F0 m 12 ls [.ref q9]) rfl ?_
    refine W.widen (k := 1) (n := 6) (by omega) (by omega) ?_
    refine lv_astore_n (lv' := [(3, .ref q9), (0, .ref x), (1, .int c0), (2, .ref o)]) hx hb dL_style_12 rfl hl (by decide) rfl (fun ls hl => ?_)
    refine lv_iconst (v := 1) hx hb dL_style_13 (by decide) ?_
    have hP9 := hP.sub (ws' := [(o, .inl (cL, 1, .inr (.inl fo)))]) [0] rfl
    have hD9 := hD.sub (ws' := [(o, .inl (cL, 1, .inr (.inl fo)))]) [0] (by decide) rfl
    have hK9 := hK.sub (tys' := [(cL, .long)]) [1] rfl
    exact W.iret (v := 1) hx hb hr (fun t ht hW => ⟨⟨1, (fo), rfl, ⟨hek.symm, fun h => absurd (hek.symm.trans h) (by decide)⟩, by rw [ht]; exact hP9, va_K.moved hW.alike hK9, hD9⟩, hS.F ht⟩) hS.2.2 dL_style_14
  · skip
    obtain ⟨hP1, hK1, hD1⟩ := hB
    rw [ht] at hP1
    have hK1 := va_K.moved hvm.symm hK1
    try dsimp only at hw_2
    obtain ⟨hP, hD⟩ := va_join (wr := [(o, .inl (cL, 1, .inr (.inl fo)))]) (w1 := []) hP hD [0, 1, 2] [3] rfl rfl (by decide) (by decide) hk1 hFc hP1 hD1
    have hK := (hK.sub (tys' := [(cL, .long)]) [1] rfl).app hK1
    generalize H1 = H at hP hS ⊢
    have hP : va_P (dC, dI) kxCl [(o, .inl (cL, 1, .inr (.inl fo)))] H := hP
    have hD : va_D A [(o, .inl (cL, 1, .inr (.inl fo)))] := hD
    have hK : va_K (dC, dI) kxCl [(cL, .long)] s := hK
    refine W.widen (k := 1) (n := 6) (by omega) (by omega) ?_
    refine lv_i2l (v := Int32.toInt64 r_1) hx hb dL_style_7 rfl ?_
    refine va_last hx hb hK hP hD hS 0 0 rfl rfl (show vp_in 0 1 by unfold vp_in; decide) dL_style_8 (fun H locs hP hD hS => ?_)
    have hP : va_P (dC, dI) kxCl [(o, .inl (cL, 1, .inr (.inl (vp_updL fo (0 : Int32).toNatClampNeg (Int32.toInt64 r_1)))))] H := hP
    have hD : va_D A [(o, .inl (cL, 1, .inr (.inl (vp_updL fo (0 : Int32).toNatClampNeg (Int32.toInt64 r_1)))))] := hD
    refine lv_goto (tgt := 18) hx hb dL_style_9 (by decide) ?_
    refine lv_iconst (v := 0) hx hb dL_style_18 (by decide) ?_
    have hP9 := hP.sub (ws' := [(o, .inl (cL, 1, .inr (.inl (vp_updL fo (0 : Int32).toNatClampNeg (Int32.toInt64 r_1)))))]) [0] rfl
    have hD9 := hD.sub (ws' := [(o, .inl (cL, 1, .inr (.inl (vp_updL fo (0 : Int32).toNatClampNeg (Int32.toInt64 r_1)))))]) [0] (by decide) rfl
    have hK9 := hK.sub (tys' := [(cL, .long)]) [0] rfl
    exact W.iret (v := 0) hx hb hr (fun t ht hW => ⟨⟨0, (vp_updL fo (0 : Int32).toNatClampNeg (Int32.toInt64 r_1)), rfl, ⟨hw_2.2.symm, fun _ => (kz_upd _ _).trans (congrArg Int32.toInt64 hw_2.1)⟩, by rw [ht]; exact hP9, va_K.moved hW.alike hK9, hD9⟩, hS.F ht⟩) hS.2.2 dL_style_19
set_option maxHeartbeats 4000000 in
set_option maxRecDepth 100000 in
theorem c_L_print (l : Launch) (hlf : l.stackTraces = false) (dC : Nat → ClassId) (dI : Nat → Nat → Nat) (x : Nat) (xe : Nat) (xn : Nat) (xso : Nat) (xro : Nat) (xga : Nat) (xlo : Nat) (xse : Nat) (xwa : Nat) (xst : Nat) (xou : Nat) (xdr : Nat) (xr3 : Nat) (o : Nat) (cL : ClassId) (fo : Nat → Int64) (sz : Nat) : Met l yL_print [.codeWith yL_print cL_print 3 (some .int) [(0, 8, 11, 17)]] ({ frames := 3, cells := 0, slots := 0, locals := 69 }) (va_Pc [.ref x, .ref o] (kx_Pre dC dI [(x, .inr (5, [.ref xe, .ref xn, .int 0, .int 1, .int 1, .ref xso, .ref xro, .int 0, .ref xga, .ref xlo, .int (-1), .ref xse, .ref xwa, .ref xst, .ref xou, .ref xdr])), (xst, .inr (1, [.int 80, .ref xr3, .int 0])), (o, .inl (cL, 1, .inr (.inl fo)))] [(cL, .long)] sz)) (va_Qi (fun (r : Int32) (u : (Nat → Int64)) => match u with | fo1 => r = 0 ∧ (0 = 0 → fo1 0 = Int32.toInt64 (-1))) (fun (u : (Nat → Int64)) (t : State) => match u with | fo1 => kx_At dC dI (va_A [(x, .inr (5, [.ref xe, .ref xn, .int 0, .int 1, .int 1, .ref xso, .ref xro, .int 0, .ref xga, .ref xlo, .int (-1), .ref xse, .ref xwa, .ref xst, .ref xou, .ref xdr])), (xst, .inr (1, [.int 80, .ref xr3, .int 0])), (o, .inl (cL, 1, .inr (.inl fo)))] sz) [(o, .inl (cL, 1, .inr (.inl fo1)))] [(cL, .long)] t) (va_A [(x, .inr (5, [.ref xe, .ref xn, .int 0, .int 1, .int 1, .ref xso, .ref xro, .int 0, .ref xga, .ref xlo, .int (-1), .ref xse, .ref xwa, .ref xst, .ref xou, .ref xdr])), (xst, .inr (1, [.int 80, .ref xr3, .int 0])), (o, .inl (cL, 1, .inr (.inl fo)))] sz)) 0 0 (va_A [(x, .inr (5, [.ref xe, .ref xn, .int 0, .int 1, .int 1, .ref xso, .ref xro, .int 0, .ref xga, .ref xlo, .int (-1), .ref xse, .ref xwa, .ref xst, .ref xou, .ref xdr])), (xst, .inr (1, [.int 80, .ref xr3, .int 0])), (o, .inl (cL, 1, .inr (.inl fo)))] sz) := by
  refine va_MetW (cc := cL_print) (maxL := 3) (ret := (some .int)) (hh := [(0, 8, 11, 17)]) (by decide) rfl ?_
  intro p e s m args below meth c s₁ B hml hv
  obtain ⟨rfl, hsz, hP, hK, hD0, hG, hZ⟩ := hv
  have hx := B.exec
  have hb := B.bytes
  have hr := B.returns
  have hts := kx_hts (a := #[.ref x, .ref o]) hG
  have hown : s.vm.findClass RL = some m.cls := findClass_of_methodNamed B.named
  have hlocks := B.notSynchronized
  have htab := vx_table (x := yL_print) B (bytes := cL_print) (maxL' := 3) (ret' := (some .int)) (hh := [(0, 8, 11, 17)]) (kx_word hG kq_288 rfl)
  subst hsz
  have hD := hD0.self (sz := s.heap.size)
  generalize hAe : va_A [(x, .inr (5, [.ref xe, .ref xn, .int 0, .int 1, .int 1, .ref xso, .ref xro, .int 0, .ref xga, .ref xlo, .int (-1), .ref xse, .ref xwa, .ref xst, .ref xou, .ref xdr])), (xst, .inr (1, [.int 80, .ref xr3, .int 0])), (o, .inl (cL, 1, .inr (.inl fo)))] s.heap.size = A at hD hZ ⊢
  have hA : ∀ q : Nat, s.heap.size ≤ q → A q := fun q h => by rw [← hAe]; exact Or.inr h
  have hS : va_S A s.heap s.heap [] := va_S.rf
  have hP : va_P (dC, dI) kxCl [(x, .inr (5, [.ref xe, .ref xn, .int 0, .int 1, .int 1, .ref xso, .ref xro, .int 0, .ref xga, .ref xlo, .int (-1), .ref xse, .ref xwa, .ref xst, .ref xou, .ref xdr])), (xst, .inr (1, [.int 80, .ref xr3, .int 0])), (o, .inl (cL, 1, .inr (.inl fo)))] s.heap := hP
  have hl := lv_entry ([.ref x, .ref o]) (n := 3) (Nat.le_of_ble_eq_true rfl)
  rw [lg_entry_eq]
  generalize (lg_sl ([.ref x, .ref o]) ++ List.replicate (3 - (lg_sl ([.ref x, .ref o])).length) Slot.unset).toArray = ls at hl ⊢
  have hl : lv_has ls 3 [(0, .ref x), (1, .ref o)] := hl
  refine lv_aload_n hx hb dL_print_0 rfl (lv_at hl 1 rfl) ?_
  refine lv_iconst (v := 0) hx hb dL_print_1 (by decide) ?_
  refine lv_aload_n hx hb dL_print_2 rfl (lv_at hl 0 rfl) ?_
  have hPc := hP.sub (ws' := [(x, .inr (5, [.ref xe, .ref xn, .int 0, .int 1, .int 1, .ref xso, .ref xro, .int 0, .ref xga, .ref xlo, .int (-1), .ref xse, .ref xwa, .ref xst, .ref xou, .ref xdr])), (xst, .inr (1, [.int 80, .ref xr3, .int 0]))]) [0, 1] rfl
  have hDc := hD.sub (ws' := [(x, .inr (5, [.ref xe, .ref xn, .int 0, .int 1, .int 1, .ref xso, .ref xro, .int 0, .ref xga, .ref xlo, .int (-1), .ref xse, .ref xwa, .ref xst, .ref xou, .ref xdr])), (xst, .inr (1, [.int 80, .ref xr3, .int 0]))]) [0, 1] (by decide) rfl
  have hKc := hK.sub (tys' := []) [] rfl
  have hFc := va_free (wc := [(x, .inr (5, [.ref xe, .ref xn, .int 0, .int 1, .int 1, .ref xso, .ref xro, .int 0, .ref xga, .ref xlo, .int (-1), .ref xse, .ref xwa, .ref xst, .ref xou, .ref xdr])), (xst, .inr (1, [.int 80, .ref xr3, .int 0]))]) hD hS hA [0, 1] rfl
  refine va_calli (va_runV (As := []) (rest := [.int 0, .ref o]) ⟨hx, hb, hml, hown, hts⟩ (c_print l hlf dC dI x xe xn xso xro xga xlo xse xwa xst xou xdr xr3 s.heap.size ) (cwV 0 hts (kx_gV kq_289 kq_290 kq_291 kq_92 kq_292 rfl) rfl rfl rfl (by decide +kernel) ⟨Nat.le_of_ble_eq_true rfl, Nat.le_of_ble_eq_true rfl⟩) ⟨kx_blind, va_recv hKc hPc (ci := 5) (q0 := 0) rfl rfl, kx_give (ws := []) (tys := []) hPc hDc hKc hG hZ hS hFc⟩ rfl rfl hl.1 rfl (lv_room (Nat.le_of_ble_eq_true rfl)) dL_print_3 ⟨Nat.le_of_ble_eq_true rfl, Nat.le_of_ble_eq_true rfl⟩) hS (fun q _ h => hFc q h) hFc (fun r_1 u t H1 locs ht hvm hw_2 hB hz1 hk1 hS => ?_)
  obtain ⟨hP1, hK1, hD1⟩ := hB
  rw [ht] at hP1
  have hK1 := va_K.moved hvm.symm hK1
  try dsimp only at hw_2
  obtain ⟨hP, hD⟩ := va_join (wr := [(o, .inl (cL, 1, .inr (.inl fo)))]) (w1 := []) hP hD [0, 1] [2] rfl rfl (by decide) (by decide) hk1 hFc hP1 hD1
  have hK := (hK.sub (tys' := [(cL, .long)]) [0] rfl).app hK1
  generalize H1 = H at hP hS ⊢
  have hP : va_P (dC, dI) kxCl [(o, .inl (cL, 1, .inr (.inl fo)))] H := hP
  have hD : va_D A [(o, .inl (cL, 1, .inr (.inl fo)))] := hD
  have hK : va_K (dC, dI) kxCl [(cL, .long)] s := hK
  subst hw_2
  refine lv_i2l (v := Int32.toInt64 (-1)) hx hb dL_print_6 rfl ?_
  refine va_last hx hb hK hP hD hS 0 0 rfl rfl (show vp_in 0 1 by unfold vp_in; decide) dL_print_7 (fun H locs hP hD hS => ?_)
  have hP : va_P (dC, dI) kxCl [(o, .inl (cL, 1, .inr (.inl (vp_updL fo (0 : Int32).toNatClampNeg (Int32.toInt64 (-1))))))] H := hP
  have hD : va_D A [(o, .inl (cL, 1, .inr (.inl (vp_updL fo (0 : Int32).toNatClampNeg (Int32.toInt64 (-1))))))] := hD
  refine lv_goto (tgt := 14) hx hb dL_print_8 (by decide) ?_
  refine lv_iconst (v := 0) hx hb dL_print_14 (by decide) ?_
  have hP9 := hP.sub (ws' := [(o, .inl (cL, 1, .inr (.inl (vp_updL fo (0 : Int32).toNatClampNeg (Int32.toInt64 (-1))))))]) [0] rfl
  have hD9 := hD.sub (ws' := [(o, .inl (cL, 1, .inr (.inl (vp_updL fo (0 : Int32).toNatClampNeg (Int32.toInt64 (-1))))))]) [0] (by decide) rfl
  have hK9 := hK.sub (tys' := [(cL, .long)]) [0] rfl
  exact W.iret (v := 0) hx hb hr (fun t ht hW => ⟨⟨0, (vp_updL fo (0 : Int32).toNatClampNeg (Int32.toInt64 (-1))), rfl, ⟨rfl, fun _ => kz_upd _ _⟩, by rw [ht]; exact hP9, va_K.moved hW.alike hK9, hD9⟩, hS.F ht⟩) hS.2.2 dL_print_15
set_option maxHeartbeats 4000000 in
set_option maxRecDepth 100000 in
theorem c_L_at (l : Launch) (hlf : l.stackTraces = false) (dC : Nat → ClassId) (dI : Nat → Nat → Nat) (x : Nat) (xe : Nat) (xn : Nat) (xso : Nat) (xro : Nat) (xga : Nat) (xlo : Nat) (xse : Nat) (xwa : Nat) (xst : Nat) (xou : Nat) (xdr : Nat) (xr4 : Nat) (p0 : Int32) (o : Nat) (cL : ClassId) (fo : Nat → Int64) (sz : Nat) : Met l yL_at [.codeWith yL_at cL_at 4 (some .int) [(0, 9, 12, 62)]] ({ frames := 8, cells := 1, slots := 6, locals := 121 }) (va_Pc [.ref x, .int p0, .ref o] (kx_Pre dC dI [(x, .inr (5, [.ref xe, .ref xn, .int 0, .int 1, .int 1, .ref xso, .ref xro, .int 0, .ref xga, .ref xlo, .int (-1), .ref xse, .ref xwa, .ref xst, .ref xou, .ref xdr])), (xou, .inr (2, [.ref xr4, .int 0, .int 0])), (o, .inl (cL, 1, .inr (.inl fo)))] [(cL, .long)] sz)) (va_Qi (fun (r : Int32) (u : Unit) => match u with | _ => r = 1) (fun (u : Unit) (t : State) => match u with | _ => kx_At dC dI (va_A [(x, .inr (5, [.ref xe, .ref xn, .int 0, .int 1, .int 1, .ref xso, .ref xro, .int 0, .ref xga, .ref xlo, .int (-1), .ref xse, .ref xwa, .ref xst, .ref xou, .ref xdr])), (xou, .inr (2, [.ref xr4, .int 0, .int 0])), (o, .inl (cL, 1, .inr (.inl fo)))] sz) [(o, .inl (cL, 1, .inr (.inl fo)))] [(cL, .long)] t) (va_A [(x, .inr (5, [.ref xe, .ref xn, .int 0, .int 1, .int 1, .ref xso, .ref xro, .int 0, .ref xga, .ref xlo, .int (-1), .ref xse, .ref xwa, .ref xst, .ref xou, .ref xdr])), (xou, .inr (2, [.ref xr4, .int 0, .int 0])), (o, .inl (cL, 1, .inr (.inl fo)))] sz)) 1 6 (va_A [(x, .inr (5, [.ref xe, .ref xn, .int 0, .int 1, .int 1, .ref xso, .ref xro, .int 0, .ref xga, .ref xlo, .int (-1), .ref xse, .ref xwa, .ref xst, .ref xou, .ref xdr])), (xou, .inr (2, [.ref xr4, .int 0, .int 0])), (o, .inl (cL, 1, .inr (.inl fo)))] sz) := by
  refine va_MetW (cc := cL_at) (maxL := 4) (ret := (some .int)) (hh := [(0, 9, 12, 62)]) (by decide) rfl ?_
  intro p e s m args below meth c s₁ B hml hv
  obtain ⟨rfl, hsz, hP, hK, hD0, hG, hZ⟩ := hv
  have hx := B.exec
  have hb := B.bytes
  have hr := B.returns
  have hts := kx_hts (a := #[.ref x, .int p0, .ref o]) hG
  have hown : s.vm.findClass RL = some m.cls := findClass_of_methodNamed B.named
  have hlocks := B.notSynchronized
  have htab := vx_table (x := yL_at) B (bytes := cL_at) (maxL' := 4) (ret' := (some .int)) (hh := [(0, 9, 12, 62)]) (kx_word hG kq_293 rfl)
  subst hsz
  have hD := hD0.self (sz := s.heap.size)
  generalize hAe : va_A [(x, .inr (5, [.ref xe, .ref xn, .int 0, .int 1, .int 1, .ref xso, .ref xro, .int 0, .ref xga, .ref xlo, .int (-1), .ref xse, .ref xwa, .ref xst, .ref xou, .ref xdr])), (xou, .inr (2, [.ref xr4, .int 0, .int 0])), (o, .inl (cL, 1, .inr (.inl fo)))] s.heap.size = A at hD hZ ⊢
  have hA : ∀ q : Nat, s.heap.size ≤ q → A q := fun q h => by rw [← hAe]; exact Or.inr h
  have hS : va_S A s.heap s.heap [] := va_S.rf
  have hP : va_P (dC, dI) kxCl [(x, .inr (5, [.ref xe, .ref xn, .int 0, .int 1, .int 1, .ref xso, .ref xro, .int 0, .ref xga, .ref xlo, .int (-1), .ref xse, .ref xwa, .ref xst, .ref xou, .ref xdr])), (xou, .inr (2, [.ref xr4, .int 0, .int 0])), (o, .inl (cL, 1, .inr (.inl fo)))] s.heap := hP
  have hl := lv_entry ([.ref x, .int p0, .ref o]) (n := 4) (Nat.le_of_ble_eq_true rfl)
  rw [lg_entry_eq]
  generalize (lg_sl ([.ref x, .int p0, .ref o]) ++ List.replicate (4 - (lg_sl ([.ref x, .int p0, .ref o])).length) Slot.unset).toArray = ls at hl ⊢
  have hl : lv_has ls 4 [(0, .ref x), (1, .int p0), (2, .ref o)] := hl
  refine lv_aload_n hx hb dL_at_0 rfl (lv_at hl 2 rfl) ?_
  refine lv_iconst (v := 0) hx hb dL_at_1 (by decide) ?_
  refine lv_aload_n hx hb dL_at_2 rfl (lv_at hl 0 rfl) ?_
  refine lv_iload_n hx hb dL_at_3 rfl (lv_at hl 1 rfl) ?_
  have hPc := hP.sub (ws' := [(x, .inr (5, [.ref xe, .ref xn, .int 0, .int 1, .int 1, .ref xso, .ref xro, .int 0, .ref xga, .ref xlo, .int (-1), .ref xse, .ref xwa, .ref xst, .ref xou, .ref xdr])), (xou, .inr (2, [.ref xr4, .int 0, .int 0]))]) [0, 1] rfl
  have hDc := hD.sub (ws' := [(x, .inr (5, [.ref xe, .ref xn, .int 0, .int 1, .int 1, .ref xso, .ref xro, .int 0, .ref xga, .ref xlo, .int (-1), .ref xse, .ref xwa, .ref xst, .ref xou, .ref xdr])), (xou, .inr (2, [.ref xr4, .int 0, .int 0]))]) [0, 1] (by decide) rfl
  have hKc := hK.sub (tys' := []) [] rfl
  have hFc := va_free (wc := [(x, .inr (5, [.ref xe, .ref xn, .int 0, .int 1, .int 1, .ref xso, .ref xro, .int 0, .ref xga, .ref xlo, .int (-1), .ref xse, .ref xwa, .ref xst, .ref xou, .ref xdr])), (xou, .inr (2, [.ref xr4, .int 0, .int 0]))]) hD hS hA [0, 1] rfl
  refine vx_calli (vx_runV (As := [.int p0]) (rest := [.int 0, .ref o]) ⟨hx, hb, hml, hown, hts⟩ (c_at l hlf dC dI x xe xn xso xro xga xlo xse xwa xst xou xdr xr4 p0 s.heap.size ) (cwV 1 hts (kx_gV kq_294 kq_295 kq_296 kq_92 kq_297 rfl) rfl rfl rfl (by decide +kernel) ⟨Nat.le_of_ble_eq_true rfl, Nat.le_of_ble_eq_true rfl⟩) ⟨kx_blind, va_recv hKc hPc (ci := 5) (q0 := 0) rfl rfl, kx_give (ws := []) (tys := []) hPc hDc hKc hG hZ hS hFc⟩ rfl rfl hl.1 rfl (lv_room (Nat.le_of_ble_eq_true rfl)) dL_at_4 ⟨Nat.le_of_ble_eq_true rfl, Nat.le_of_ble_eq_true rfl⟩) hS (fun q _ h => hFc q h) hFc (fun q _ h => hFc q h) (fun E ce q9 u t H1 locs ht hvm _ hEx hz1 hk1 hS hcell hcv hcl => ?_) (fun r_1 u t H1 locs ht hvm hw_2 hB hz1 hk1 hS => ?_)
  · skip
    obtain ⟨hP, hD⟩ := va_join (wr := [(o, .inl (cL, 1, .inr (.inl fo)))]) (w1 := []) hP hD [0, 1] [2] rfl rfl (by decide) (by decide) hk1 hFc (fun k q h => by simp at h) ⟨fun i j p q h => by simp at h, fun k q h => by simp at h⟩
    generalize H1 = H at hP hS hcell ⊢
    have hP : va_P (dC, dI) kxCl [(o, .inl (cL, 1, .inr (.inl fo)))] H := hP
    have hD : va_D A [(o, .inl (cL, 1, .inr (.inl fo)))] := hD
    subst hEx
    refine vx_catch (own := RL) (name := "java/lang/ArrayIndexOutOfBoundsException") hown [] ⟨0, 9, 12, 62⟩ [] (by rw [htab]; rfl) (fun z hz => absurd hz List.not_mem_nil) (by decide) (by decide) (kx_word hG kq_298 rfl) (kx_cast hG kq_299) hcell hcv hcl ?_
    refine W.eq (g2 := F0 m 12 ls [.ref q9]) rfl ?_
    refine W.widen (k := 1) (n := 6) (by omega) (by omega) ?_
    refine lv_astore_n (lv' := [(3, .ref q9), (0, .ref x), (1, .int p0), (2, .ref o)]) hx hb dL_at_12 rfl hl (by decide) rfl (fun ls hl => ?_)
    refine lv_iconst (v := 1) hx hb dL_at_13 (by decide) ?_
    have hP9 := hP.sub (ws' := [(o, .inl (cL, 1, .inr (.inl fo)))]) [0] rfl
    have hD9 := hD.sub (ws' := [(o, .inl (cL, 1, .inr (.inl fo)))]) [0] (by decide) rfl
    have hK9 := hK.sub (tys' := [(cL, .long)]) [0] rfl
    exact W.iret (v := 1) hx hb hr (fun t ht hW => ⟨⟨1, (), rfl, rfl, by rw [ht]; exact hP9, va_K.moved hW.alike hK9, hD9⟩, hS.F ht⟩) hS.2.2 dL_at_14
  · skip
    exact hw_2.elim
