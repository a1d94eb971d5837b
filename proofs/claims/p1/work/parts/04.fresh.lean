/-! the landed class's methods on a fresh object; ek_ : which exception a first call comes to (the law's number), ev_ : its answer where there is none -/
def ek_entry (lv ab : Int32) : Int32 := if ab = -1 then (if lv = 0 then 0 else 2) else 1
def ek_rule (w : Int32) : Int32 := if w = 0 then 0 else if w = 1 then 0 else 1
def ek_told (i : Int32) : Int32 := if i = -1 then 0 else 1
def ek_style (c : Int32) : Int32 := if c < 0 then 1 else if 127 < c then 1 else 0
def ev_style (c : Int32) : Int32 := if c = 0 then 0 else 1
theorem ek_e1 {lv ab : Int32} (h : ¬ ab = -1) : ek_entry lv ab = 1 := by rw [ek_entry, if_neg h]
theorem ek_e2 {lv ab : Int32} (h : ab = -1) (h2 : ¬ lv = 0) : ek_entry lv ab = 2 := by rw [ek_entry, if_pos h, if_neg h2]
theorem ek_e0 {lv ab : Int32} (h : ab = -1) (h2 : lv = 0) : ek_entry lv ab = 0 := by rw [ek_entry, if_pos h, if_pos h2]
theorem kz_lt {x : Int32} (h : x < 0) : ¬ x = 0 := by rintro rfl; exact absurd h (by decide)
theorem kz_ge3 {x : Int32} (h : 3 ≤ x) : ¬ x = 0 := by rintro rfl; exact absurd h (by decide)
theorem kz_if {r x : Int32} (h : r = if x = 0 then 1 else 0) (hr : ¬ r = 0) : x = 0 := by
  by_cases hx : x = 0
  · exact hx
  · rw [if_neg hx] at h; exact absurd h hr
theorem kz_ifn {r x : Int32} (h : r = if x = 0 then 1 else 0) (hr : r = 0) : ¬ x = 0 := by
  intro hx
  rw [if_pos hx, hr] at h; exact absurd h (by decide)
theorem kz_nn {x : Int32} (h : ¬ x < 0) : 0 ≤ x := Int32.not_lt.mp h
theorem kz_m1 {x : Int32} (h : x < 0) : ¬ x = 1 := by rintro rfl; exact absurd h (by decide)
theorem kz_g1 {x : Int32} (h : ¬ x ≤ 1) : ¬ x = 0 ∧ ¬ x = 1 := ⟨by rintro rfl; exact absurd (by decide) h, by rintro rfl; exact absurd (by decide) h⟩
theorem kz_01 {x : Int32} (h0 : ¬ x < 0) (h1 : x ≤ 1) (hn : ¬ x = 0) : x = 1 := by
  have a := Int32.not_lt.mp h0
  rw [Int32.le_iff_toInt_le] at a h1
  have b : x.toInt ≠ 0 := fun q => hn (Int32.toInt_inj.mp (by rw [q]; rfl))
  refine Int32.toInt_inj.mp ?_
  have e1 : (1 : Int32).toInt = 1 := by decide
  have e0 : (0 : Int32).toInt = 0 := by decide
  rw [e1] at h1; rw [e0] at a; rw [e1]; omega
theorem ek_r1 {w : Int32} (h : ¬ w = 0) (h2 : ¬ w = 1) : ek_rule w = 1 := by rw [ek_rule, if_neg h, if_neg h2]
theorem ek_r0 {w : Int32} (h : w = 0) : ek_rule w = 0 := by rw [ek_rule, if_pos h]
theorem ek_r0b {w : Int32} (h : w = 1) : ek_rule w = 0 := by rw [h]; decide
theorem ek_t0 {i : Int32} (h : i = -1) : ek_told i = 0 := by rw [ek_told, if_pos h]
theorem ek_t1 {i : Int32} (h : ¬ i = -1) : ek_told i = 1 := by rw [ek_told, if_neg h]
theorem ek_s1 {c : Int32} (h : c < 0) : ek_style c = 1 := by rw [ek_style, if_pos h]
theorem ek_s1b {c : Int32} (h : ¬ c < 0) (h2 : ¬ c ≤ 127) : ek_style c = 1 := by rw [ek_style, if_neg h, if_pos (Int32.not_le.mp h2)]
theorem ek_s0 {c : Int32} (h : ¬ c < 0) (h2 : c ≤ 127) : ek_style c = 0 := by rw [ek_style, if_neg h, if_neg (Int32.not_lt.mpr h2)]
theorem ev_s0 {c : Int32} (h : c = 0) : ev_style c = 0 := by rw [ev_style, if_pos h]
theorem ev_s1 {c : Int32} (h : ¬ c = 0) : ev_style c = 1 := by rw [ev_style, if_neg h]
set_option maxHeartbeats 4000000 in
set_option maxRecDepth 100000 in
theorem c_Ints_size (l : Launch) (hlf : l.stackTraces = false) (dC : Nat → ClassId) (dI : Nat → Nat → Nat) (h0 : Nat) (lim : Int32) (rm : Nat) (sz0 : Int32) (sz : Nat) : Met l yX1_size [.code yX1_size cX1_size 1 (some .int)] ({ frames := 0, cells := 0, slots := 0, locals := 0 }) (va_Pc [.ref h0] (kx_Pre dC dI [(h0, .inr (1, [.int lim, .ref rm, .int sz0]))] [] sz)) (va_Qi (fun (r : Int32) (u : Unit) => match u with | _ => r = sz0) (fun (u : Unit) (t : State) => match u with | _ => kx_At dC dI (va_A [(h0, .inr (1, [.int lim, .ref rm, .int sz0]))] sz) [(h0, .inr (1, [.int lim, .ref rm, .int sz0]))] [] t) (va_A [(h0, .inr (1, [.int lim, .ref rm, .int sz0]))] sz)) 0 0 (va_A [(h0, .inr (1, [.int lim, .ref rm, .int sz0]))] sz) := by
  refine Met.ofW (cc := cX1_size) (maxL := 1) (ret := (some .int)) (by decide) rfl ?_
  intro p e s m args below meth c s₁ B hml hv
  obtain ⟨rfl, hsz, hP, hK, hD0, hG, hZ⟩ := hv
  have hx := B.exec
  have hb := B.bytes
  have hr := B.returns
  have hts := kx_hts (a := #[.ref h0]) hG
  have hown : s.vm.findClass RX1 = some m.cls := findClass_of_methodNamed B.named
  have hlocks := B.notSynchronized
  subst hsz
  have hD := hD0.self (sz := s.heap.size)
  generalize hAe : va_A [(h0, .inr (1, [.int lim, .ref rm, .int sz0]))] s.heap.size = A at hD hZ ⊢
  have hA : ∀ q : Nat, s.heap.size ≤ q → A q := fun q h => by rw [← hAe]; exact Or.inr h
  have hS : va_S A s.heap s.heap [] := va_S.rf
  have hP : va_P (dC, dI) kxCl [(h0, .inr (1, [.int lim, .ref rm, .int sz0]))] s.heap := hP
  have hl := lv_entry ([.ref h0]) (n := 1) (Nat.le_of_ble_eq_true rfl)
  rw [lg_entry_eq]
  generalize (lg_sl ([.ref h0]) ++ List.replicate (1 - (lg_sl ([.ref h0])).length) Slot.unset).toArray = ls at hl ⊢
  have hl : lv_has ls 1 [(0, .ref h0)] := hl
  refine lv_aload_n hx hb dX1_size_0 rfl (lv_at hl 0 rfl) ?_
  refine va_get (D := (dC, dI)) (ci := 1) (v := .int sz0) (C := RX1) (T := TX1) (N := 3) hx hb hts kt_X1 hown hK hP 0 rfl rfl 2 (by decide) (kx_word hG kq_5 rfl) (fun _ h9 => h9) rfl dX1_size_1 ?_
  have hP9 := hP.sub (ws' := [(h0, .inr (1, [.int lim, .ref rm, .int sz0]))]) [0] rfl
  have hD9 := hD.sub (ws' := [(h0, .inr (1, [.int lim, .ref rm, .int sz0]))]) [0] (by decide) rfl
  have hK9 := hK.sub (tys' := []) [] rfl
  exact W.iret (v := sz0) hx hb hr (fun t ht hW => ⟨⟨sz0, (), rfl, rfl, by rw [ht]; exact hP9, va_K.moved hW.alike hK9, hD9⟩, hS.F ht⟩) hS.2.2 dX1_size_4
set_option maxHeartbeats 4000000 in
set_option maxRecDepth 100000 in
theorem c_Ints_clear (l : Launch) (hlf : l.stackTraces = false) (dC : Nat → ClassId) (dI : Nat → Nat → Nat) (h0 : Nat) (lim : Int32) (rm : Nat) (sz0 : Int32) (sz : Nat) : Met l yX1_clear [.code yX1_clear cX1_clear 1 none] ({ frames := 0, cells := 0, slots := 0, locals := 0 }) (va_Pc [.ref h0] (kx_Pre dC dI [(h0, .inr (1, [.int lim, .ref rm, .int sz0]))] [] sz)) (va_Qv (fun u : Unit => match u with | _ => True) (fun (u : Unit) (t : State) => match u with | _ => kx_At dC dI (va_A [(h0, .inr (1, [.int lim, .ref rm, .int sz0]))] sz) [(h0, .inr (1, [.int lim, .ref rm, .int 0]))] [] t) (va_A [(h0, .inr (1, [.int lim, .ref rm, .int sz0]))] sz)) 0 0 (va_A [(h0, .inr (1, [.int lim, .ref rm, .int sz0]))] sz) := by
  refine Met.ofW (cc := cX1_clear) (maxL := 1) (ret := none) (by decide) rfl ?_
  intro p e s m args below meth c s₁ B hml hv
  obtain ⟨rfl, hsz, hP, hK, hD0, hG, hZ⟩ := hv
  have hx := B.exec
  have hb := B.bytes
  have hr := B.returns
  have hts := kx_hts (a := #[.ref h0]) hG
  have hown : s.vm.findClass RX1 = some m.cls := findClass_of_methodNamed B.named
  have hlocks := B.notSynchronized
  subst hsz
  have hD := hD0.self (sz := s.heap.size)
  generalize hAe : va_A [(h0, .inr (1, [.int lim, .ref rm, .int sz0]))] s.heap.size = A at hD hZ ⊢
  have hA : ∀ q : Nat, s.heap.size ≤ q → A q := fun q h => by rw [← hAe]; exact Or.inr h
  have hS : va_S A s.heap s.heap [] := va_S.rf
  have hP : va_P (dC, dI) kxCl [(h0, .inr (1, [.int lim, .ref rm, .int sz0]))] s.heap := hP
  have hl := lv_entry ([.ref h0]) (n := 1) (Nat.le_of_ble_eq_true rfl)
  rw [lg_entry_eq]
  generalize (lg_sl ([.ref h0]) ++ List.replicate (1 - (lg_sl ([.ref h0])).length) Slot.unset).toArray = ls at hl ⊢
  have hl : lv_has ls 1 [(0, .ref h0)] := hl
  refine lv_aload_n hx hb dX1_clear_0 rfl (lv_at hl 0 rfl) ?_
  refine lv_iconst (v := 0) hx hb dX1_clear_1 (by decide) ?_
  refine va_put (D := (dC, dI)) (ci := 1) (v := .int 0) (ty := .int) (C := RX1) (T := TX1) (N := 3) hx hb hts kt_X1 tyX1 tyX1_ok nmX1 hown hK hP hD hS 0 rfl rfl 2 (by decide) (kx_word hG kq_5 rfl) (fun _ h9 => h9) rfl (by decide +kernel) rfl rfl (Nat.le_of_ble_eq_true rfl) dX1_clear_2 (fun H locs hP hD hS => ?_)
  have hP : va_P (dC, dI) kxCl [(h0, .inr (1, [.int lim, .ref rm, .int 0]))] H := hP
  have hD : va_D A [(h0, .inr (1, [.int lim, .ref rm, .int 0]))] := hD
  have hP9 := hP.sub (ws' := [(h0, .inr (1, [.int lim, .ref rm, .int 0]))]) [0] rfl
  have hD9 := hD.sub (ws' := [(h0, .inr (1, [.int lim, .ref rm, .int 0]))]) [0] (by decide) rfl
  have hK9 := hK.sub (tys' := []) [] rfl
  exact W.vret hx hb hr (fun t ht hW => ⟨⟨(), rfl, trivial, by rw [ht]; exact hP9, va_K.moved hW.alike hK9, hD9⟩, hS.F ht⟩) hS.2.2 dX1_clear_5
set_option maxHeartbeats 4000000 in
set_option maxRecDepth 100000 in
theorem c_Ints_isFull (l : Launch) (hlf : l.stackTraces = false) (dC : Nat → ClassId) (dI : Nat → Nat → Nat) (h0 : Nat) (rm : Nat) (sz : Nat) : Met l yX1_isFull [.code yX1_isFull cX1_isFull 1 (some .boolean)] ({ frames := 0, cells := 0, slots := 0, locals := 0 }) (va_Pc [.ref h0] (kx_Pre dC dI [(h0, .inr (1, [.int 80, .ref rm, .int 0]))] [] sz)) (va_Qi (fun (r : Int32) (u : Unit) => match u with | _ => r = 0) (fun (u : Unit) (t : State) => match u with | _ => kx_At dC dI (va_A [(h0, .inr (1, [.int 80, .ref rm, .int 0]))] sz) [(h0, .inr (1, [.int 80, .ref rm, .int 0]))] [] t) (va_A [(h0, .inr (1, [.int 80, .ref rm, .int 0]))] sz)) 0 0 (va_A [(h0, .inr (1, [.int 80, .ref rm, .int 0]))] sz) := by
  refine Met.ofW (cc := cX1_isFull) (maxL := 1) (ret := (some .boolean)) (by decide) rfl ?_
  intro p e s m args below meth c s₁ B hml hv
  obtain ⟨rfl, hsz, hP, hK, hD0, hG, hZ⟩ := hv
  have hx := B.exec
  have hb := B.bytes
  have hr := B.returns
  have hts := kx_hts (a := #[.ref h0]) hG
  have hown : s.vm.findClass RX1 = some m.cls := findClass_of_methodNamed B.named
  have hlocks := B.notSynchronized
  subst hsz
  have hD := hD0.self (sz := s.heap.size)
  generalize hAe : va_A [(h0, .inr (1, [.int 80, .ref rm, .int 0]))] s.heap.size = A at hD hZ ⊢
  have hA : ∀ q : Nat, s.heap.size ≤ q → A q := fun q h => by rw [← hAe]; exact Or.inr h
  have hS : va_S A s.heap s.heap [] := va_S.rf
  have hP : va_P (dC, dI) kxCl [(h0, .inr (1, [.int 80, .ref rm, .int 0]))] s.heap := hP
  have hl := lv_entry ([.ref h0]) (n := 1) (Nat.le_of_ble_eq_true rfl)
  rw [lg_entry_eq]
  generalize (lg_sl ([.ref h0]) ++ List.replicate (1 - (lg_sl ([.ref h0])).length) Slot.unset).toArray = ls at hl ⊢
  have hl : lv_has ls 1 [(0, .ref h0)] := hl
  refine lv_aload_n hx hb dX1_isFull_0 rfl (lv_at hl 0 rfl) ?_
  refine va_get (D := (dC, dI)) (ci := 1) (v := .int 0) (C := RX1) (T := TX1) (N := 3) hx hb hts kt_X1 hown hK hP 0 rfl rfl 2 (by decide) (kx_word hG kq_5 rfl) (fun _ h9 => h9) rfl dX1_isFull_1 ?_
  refine lv_aload_n hx hb dX1_isFull_4 rfl (lv_at hl 0 rfl) ?_
  refine va_get (D := (dC, dI)) (ci := 1) (v := .int 80) (C := RX1) (T := TX1) (N := 3) hx hb hts kt_X1 hown hK hP 0 rfl rfl 0 (by decide) (kx_word hG kq_6 rfl) (fun _ h9 => h9) rfl dX1_isFull_5 ?_
  refine lv_icmp_lt (tgt := 15) hx hb dX1_isFull_8 (by decide) (fun c_1 => ?_) (fun c_1 => ?_)
  · skip
    refine lv_iconst (v := 0) hx hb dX1_isFull_15 (by decide) ?_
    have hP9 := hP.sub (ws' := [(h0, .inr (1, [.int 80, .ref rm, .int 0]))]) [0] rfl
    have hD9 := hD.sub (ws' := [(h0, .inr (1, [.int 80, .ref rm, .int 0]))]) [0] (by decide) rfl
    have hK9 := hK.sub (tys' := []) [] rfl
    exact W.zret (v := 0) hx hb hr (by decide) (fun t ht hW => ⟨⟨0, (), rfl, rfl, by rw [ht]; exact hP9, va_K.moved hW.alike hK9, hD9⟩, hS.F ht⟩) hS.2.2 dX1_isFull_16
  · exact absurd c_1 (by decide)
set_option maxHeartbeats 4000000 in
set_option maxRecDepth 100000 in
theorem c_Paper_size (l : Launch) (hlf : l.stackTraces = false) (dC : Nat → ClassId) (dI : Nat → Nat → Nat) (h0 : Nat) (rm : Nat) (sz : Nat) : Met l yX2_size [.code yX2_size cX2_size 1 (some .int)] ({ frames := 0, cells := 0, slots := 0, locals := 0 }) (va_Pc [.ref h0] (kx_Pre dC dI [(h0, .inr (2, [.ref rm, .int 0, .int 0]))] [] sz)) (va_Qi (fun (r : Int32) (u : Unit) => match u with | _ => r = 0) (fun (u : Unit) (t : State) => match u with | _ => kx_At dC dI (va_A [(h0, .inr (2, [.ref rm, .int 0, .int 0]))] sz) [(h0, .inr (2, [.ref rm, .int 0, .int 0]))] [] t) (va_A [(h0, .inr (2, [.ref rm, .int 0, .int 0]))] sz)) 0 0 (va_A [(h0, .inr (2, [.ref rm, .int 0, .int 0]))] sz) := by
  refine Met.ofW (cc := cX2_size) (maxL := 1) (ret := (some .int)) (by decide) rfl ?_
  intro p e s m args below meth c s₁ B hml hv
  obtain ⟨rfl, hsz, hP, hK, hD0, hG, hZ⟩ := hv
  have hx := B.exec
  have hb := B.bytes
  have hr := B.returns
  have hts := kx_hts (a := #[.ref h0]) hG
  have hown : s.vm.findClass RX2 = some m.cls := findClass_of_methodNamed B.named
  have hlocks := B.notSynchronized
  subst hsz
  have hD := hD0.self (sz := s.heap.size)
  generalize hAe : va_A [(h0, .inr (2, [.ref rm, .int 0, .int 0]))] s.heap.size = A at hD hZ ⊢
  have hA : ∀ q : Nat, s.heap.size ≤ q → A q := fun q h => by rw [← hAe]; exact Or.inr h
  have hS : va_S A s.heap s.heap [] := va_S.rf
  have hP : va_P (dC, dI) kxCl [(h0, .inr (2, [.ref rm, .int 0, .int 0]))] s.heap := hP
  have hl := lv_entry ([.ref h0]) (n := 1) (Nat.le_of_ble_eq_true rfl)
  rw [lg_entry_eq]
  generalize (lg_sl ([.ref h0]) ++ List.replicate (1 - (lg_sl ([.ref h0])).length) Slot.unset).toArray = ls at hl ⊢
  have hl : lv_has ls 1 [(0, .ref h0)] := hl
  refine lv_aload_n hx hb dX2_size_0 rfl (lv_at hl 0 rfl) ?_
  refine va_get (D := (dC, dI)) (ci := 2) (v := .int 0) (C := RX2) (T := TX2) (N := 3) hx hb hts kt_X2 hown hK hP 0 rfl rfl 1 (by decide) (kx_word hG kq_16 rfl) (fun _ h9 => h9) rfl dX2_size_1 ?_
  have hP9 := hP.sub (ws' := [(h0, .inr (2, [.ref rm, .int 0, .int 0]))]) [0] rfl
  have hD9 := hD.sub (ws' := [(h0, .inr (2, [.ref rm, .int 0, .int 0]))]) [0] (by decide) rfl
  have hK9 := hK.sub (tys' := []) [] rfl
  exact W.iret (v := 0) hx hb hr (fun t ht hW => ⟨⟨0, (), rfl, rfl, by rw [ht]; exact hP9, va_K.moved hW.alike hK9, hD9⟩, hS.F ht⟩) hS.2.2 dX2_size_4
set_option maxHeartbeats 4000000 in
set_option maxRecDepth 100000 in
theorem c_Warnings_lookFor (l : Launch) (hlf : l.stackTraces = false) (dC : Nat → ClassId) (dI : Nat → Nat → Nat) (h0 : Nat) (i : Int32) (sz : Nat) : Met l yX4_lookFor [.code yX4_lookFor cX4_lookFor 2 none] ({ frames := 0, cells := 0, slots := 0, locals := 0 }) (va_Pc [.ref h0, .int i] (kx_Pre dC dI [(h0, .inr (4, [.int (-1), .int 0, .int 0, .int 0, .int 0]))] [] sz)) (va_Qv (fun u : Unit => match u with | _ => True) (fun (u : Unit) (t : State) => match u with | _ => kx_At dC dI (va_A [(h0, .inr (4, [.int (-1), .int 0, .int 0, .int 0, .int 0]))] sz) [(h0, .inr (4, [.int i, .int 0, .int 0, .int 0, .int 0]))] [] t) (va_A [(h0, .inr (4, [.int (-1), .int 0, .int 0, .int 0, .int 0]))] sz)) 0 0 (va_A [(h0, .inr (4, [.int (-1), .int 0, .int 0, .int 0, .int 0]))] sz) := by
  refine Met.ofW (cc := cX4_lookFor) (maxL := 2) (ret := none) (by decide) rfl ?_
  intro p e s m args below meth c s₁ B hml hv
  obtain ⟨rfl, hsz, hP, hK, hD0, hG, hZ⟩ := hv
  have hx := B.exec
  have hb := B.bytes
  have hr := B.returns
  have hts := kx_hts (a := #[.ref h0, .int i]) hG
  have hown : s.vm.findClass RX4 = some m.cls := findClass_of_methodNamed B.named
  have hlocks := B.notSynchronized
  subst hsz
  have hD := hD0.self (sz := s.heap.size)
  generalize hAe : va_A [(h0, .inr (4, [.int (-1), .int 0, .int 0, .int 0, .int 0]))] s.heap.size = A at hD hZ ⊢
  have hA : ∀ q : Nat, s.heap.size ≤ q → A q := fun q h => by rw [← hAe]; exact Or.inr h
  have hS : va_S A s.heap s.heap [] := va_S.rf
  have hP : va_P (dC, dI) kxCl [(h0, .inr (4, [.int (-1), .int 0, .int 0, .int 0, .int 0]))] s.heap := hP
  have hl := lv_entry ([.ref h0, .int i]) (n := 2) (Nat.le_of_ble_eq_true rfl)
  rw [lg_entry_eq]
  generalize (lg_sl ([.ref h0, .int i]) ++ List.replicate (2 - (lg_sl ([.ref h0, .int i])).length) Slot.unset).toArray = ls at hl ⊢
  have hl : lv_has ls 2 [(0, .ref h0), (1, .int i)] := hl
  refine lv_aload_n hx hb dX4_lookFor_0 rfl (lv_at hl 0 rfl) ?_
  refine lv_iload_n hx hb dX4_lookFor_1 rfl (lv_at hl 1 rfl) ?_
  refine va_put (D := (dC, dI)) (ci := 4) (v := .int i) (ty := .int) (C := RX4) (T := TX4) (N := 5) hx hb hts kt_X4 tyX4 tyX4_ok nmX4 hown hK hP hD hS 0 rfl rfl 0 (by decide) (kx_word hG kq_8 rfl) (fun _ h9 => h9) rfl (by decide +kernel) rfl rfl (Nat.le_of_ble_eq_true rfl) dX4_lookFor_2 (fun H locs hP hD hS => ?_)
  have hP : va_P (dC, dI) kxCl [(h0, .inr (4, [.int i, .int 0, .int 0, .int 0, .int 0]))] H := hP
  have hD : va_D A [(h0, .inr (4, [.int i, .int 0, .int 0, .int 0, .int 0]))] := hD
  refine lv_aload_n hx hb dX4_lookFor_5 rfl (lv_at hl 0 rfl) ?_
  refine lv_iconst (v := 0) hx hb dX4_lookFor_6 (by decide) ?_
  refine va_put (D := (dC, dI)) (ci := 4) (v := .int 0) (ty := .int) (C := RX4) (T := TX4) (N := 5) hx hb hts kt_X4 tyX4 tyX4_ok nmX4 hown hK hP hD hS 0 rfl rfl 1 (by decide) (kx_word hG kq_9 rfl) (fun _ h9 => h9) rfl (by decide +kernel) rfl rfl (Nat.le_of_ble_eq_true rfl) dX4_lookFor_7 (fun H locs hP hD hS => ?_)
  have hP : va_P (dC, dI) kxCl [(h0, .inr (4, [.int i, .int 0, .int 0, .int 0, .int 0]))] H := hP
  have hD : va_D A [(h0, .inr (4, [.int i, .int 0, .int 0, .int 0, .int 0]))] := hD
  have hP9 := hP.sub (ws' := [(h0, .inr (4, [.int i, .int 0, .int 0, .int 0, .int 0]))]) [0] rfl
  have hD9 := hD.sub (ws' := [(h0, .inr (4, [.int i, .int 0, .int 0, .int 0, .int 0]))]) [0] (by decide) rfl
  have hK9 := hK.sub (tys' := []) [] rfl
  exact W.vret hx hb hr (fun t ht hW => ⟨⟨(), rfl, trivial, by rw [ht]; exact hP9, va_K.moved hW.alike hK9, hD9⟩, hS.F ht⟩) hS.2.2 dX4_lookFor_10
set_option maxHeartbeats 4000000 in
set_option maxRecDepth 100000 in
theorem c_isEntry (l : Launch) (hlf : l.stackTraces = false) (dC : Nat → ClassId) (dI : Nat → Nat → Nat) (x : Nat) (xe : Nat) (xn : Nat) (xso : Nat) (xro : Nat) (xga : Nat) (xlo : Nat) (xse : Nat) (xwa : Nat) (xst : Nat) (xou : Nat) (xdr : Nat) (e0 : Int32) (sz : Nat) : Met l yX5_isEntry [.code yX5_isEntry cX5_isEntry 2 (some .boolean)] ({ frames := 0, cells := 0, slots := 0, locals := 0 }) (va_Pc [.ref x, .int e0] (kx_Pre dC dI [(x, .inr (5, [.ref xe, .ref xn, .int 0, .int 1, .int 1, .ref xso, .ref xro, .int 0, .ref xga, .ref xlo, .int (-1), .ref xse, .ref xwa, .ref xst, .ref xou, .ref xdr]))] [] sz)) (va_Qi (fun (r : Int32) (u : Unit) => match u with | _ => r = 0) (fun (u : Unit) (t : State) => match u with | _ => kx_At dC dI (va_A [(x, .inr (5, [.ref xe, .ref xn, .int 0, .int 1, .int 1, .ref xso, .ref xro, .int 0, .ref xga, .ref xlo, .int (-1), .ref xse, .ref xwa, .ref xst, .ref xou, .ref xdr]))] sz) [(x, .inr (5, [.ref xe, .ref xn, .int 0, .int 1, .int 1, .ref xso, .ref xro, .int 0, .ref xga, .ref xlo, .int (-1), .ref xse, .ref xwa, .ref xst, .ref xou, .ref xdr]))] [] t) (va_A [(x, .inr (5, [.ref xe, .ref xn, .int 0, .int 1, .int 1, .ref xso, .ref xro, .int 0, .ref xga, .ref xlo, .int (-1), .ref xse, .ref xwa, .ref xst, .ref xou, .ref xdr]))] sz)) 0 0 (va_A [(x, .inr (5, [.ref xe, .ref xn, .int 0, .int 1, .int 1, .ref xso, .ref xro, .int 0, .ref xga, .ref xlo, .int (-1), .ref xse, .ref xwa, .ref xst, .ref xou, .ref xdr]))] sz) := by
  refine Met.ofW (cc := cX5_isEntry) (maxL := 2) (ret := (some .boolean)) (by decide) rfl ?_
  intro p e s m args below meth c s₁ B hml hv
  obtain ⟨rfl, hsz, hP, hK, hD0, hG, hZ⟩ := hv
  have hx := B.exec
  have hb := B.bytes
  have hr := B.returns
  have hts := kx_hts (a := #[.ref x, .int e0]) hG
  have hown : s.vm.findClass RX5 = some m.cls := findClass_of_methodNamed B.named
  have hlocks := B.notSynchronized
  subst hsz
  have hD := hD0.self (sz := s.heap.size)
  generalize hAe : va_A [(x, .inr (5, [.ref xe, .ref xn, .int 0, .int 1, .int 1, .ref xso, .ref xro, .int 0, .ref xga, .ref xlo, .int (-1), .ref xse, .ref xwa, .ref xst, .ref xou, .ref xdr]))] s.heap.size = A at hD hZ ⊢
  have hA : ∀ q : Nat, s.heap.size ≤ q → A q := fun q h => by rw [← hAe]; exact Or.inr h
  have hS : va_S A s.heap s.heap [] := va_S.rf
  have hP : va_P (dC, dI) kxCl [(x, .inr (5, [.ref xe, .ref xn, .int 0, .int 1, .int 1, .ref xso, .ref xro, .int 0, .ref xga, .ref xlo, .int (-1), .ref xse, .ref xwa, .ref xst, .ref xou, .ref xdr]))] s.heap := hP
  have hl := lv_entry ([.ref x, .int e0]) (n := 2) (Nat.le_of_ble_eq_true rfl)
  rw [lg_entry_eq]
  generalize (lg_sl ([.ref x, .int e0]) ++ List.replicate (2 - (lg_sl ([.ref x, .int e0])).length) Slot.unset).toArray = ls at hl ⊢
  have hl : lv_has ls 2 [(0, .ref x), (1, .int e0)] := hl
  refine lv_iload_n hx hb dX5_isEntry_0 rfl (lv_at hl 1 rfl) ?_
  refine lv_if_lt (tgt := 16) hx hb dX5_isEntry_1 (by decide) (fun c_1 => ?_) (fun c_1 => ?_)
  · skip
    refine lv_iconst (v := 0) hx hb dX5_isEntry_16 (by decide) ?_
    have hP9 := hP.sub (ws' := [(x, .inr (5, [.ref xe, .ref xn, .int 0, .int 1, .int 1, .ref xso, .ref xro, .int 0, .ref xga, .ref xlo, .int (-1), .ref xse, .ref xwa, .ref xst, .ref xou, .ref xdr]))]) [0] rfl
    have hD9 := hD.sub (ws' := [(x, .inr (5, [.ref xe, .ref xn, .int 0, .int 1, .int 1, .ref xso, .ref xro, .int 0, .ref xga, .ref xlo, .int (-1), .ref xse, .ref xwa, .ref xst, .ref xou, .ref xdr]))]) [0] (by decide) rfl
    have hK9 := hK.sub (tys' := []) [] rfl
    exact W.zret (v := 0) hx hb hr (by decide) (fun t ht hW => ⟨⟨0, (), rfl, rfl, by rw [ht]; exact hP9, va_K.moved hW.alike hK9, hD9⟩, hS.F ht⟩) hS.2.2 dX5_isEntry_17
  · skip
    refine lv_iload_n hx hb dX5_isEntry_4 rfl (lv_at hl 1 rfl) ?_
    refine lv_aload_n hx hb dX5_isEntry_5 rfl (lv_at hl 0 rfl) ?_
    refine va_get (D := (dC, dI)) (ci := 5) (v := .int 0) (C := RX5) (T := TX5) (N := 16) hx hb hts kt_X5 hown hK hP 0 rfl rfl 2 (by decide) (kx_word hG kq_59 rfl) (fun _ h9 => h9) rfl dX5_isEntry_6 ?_
    refine lv_icmp_ge (tgt := 16) hx hb dX5_isEntry_9 (by decide) (fun c_2 => ?_) (fun c_2 => ?_)
    · skip
      refine lv_iconst (v := 0) hx hb dX5_isEntry_16 (by decide) ?_
      have hP9 := hP.sub (ws' := [(x, .inr (5, [.ref xe, .ref xn, .int 0, .int 1, .int 1, .ref xso, .ref xro, .int 0, .ref xga, .ref xlo, .int (-1), .ref xse, .ref xwa, .ref xst, .ref xou, .ref xdr]))]) [0] rfl
      have hD9 := hD.sub (ws' := [(x, .inr (5, [.ref xe, .ref xn, .int 0, .int 1, .int 1, .ref xso, .ref xro, .int 0, .ref xga, .ref xlo, .int (-1), .ref xse, .ref xwa, .ref xst, .ref xou, .ref xdr]))]) [0] (by decide) rfl
      have hK9 := hK.sub (tys' := []) [] rfl
      exact W.zret (v := 0) hx hb hr (by decide) (fun t ht hW => ⟨⟨0, (), rfl, rfl, by rw [ht]; exact hP9, va_K.moved hW.alike hK9, hD9⟩, hS.F ht⟩) hS.2.2 dX5_isEntry_17
    · exact absurd (kz_nn c_1) c_2
set_option maxHeartbeats 4000000 in
set_option maxRecDepth 100000 in
theorem c_needEntry (l : Launch) (hlf : l.stackTraces = false) (dC : Nat → ClassId) (dI : Nat → Nat → Nat) (x : Nat) (xe : Nat) (xn : Nat) (xso : Nat) (xro : Nat) (xga : Nat) (xlo : Nat) (xse : Nat) (xwa : Nat) (xst : Nat) (xou : Nat) (xdr : Nat) (e0 : Int32) (sz : Nat) : vx_Met l yX5_needEntry [.code yX5_needEntry cX5_needEntry 2 none] ({ frames := 7, cells := 1, slots := 6, locals := 100 }) (va_Pc [.ref x, .int e0] (kx_Pre dC dI [(x, .inr (5, [.ref xe, .ref xn, .int 0, .int 1, .int 1, .ref xso, .ref xro, .int 0, .ref xga, .ref xlo, .int (-1), .ref xse, .ref xwa, .ref xst, .ref xou, .ref xdr]))] [] sz)) (va_Qv (fun u : Unit => match u with | _ => False) (fun (u : Unit) (t : State) => match u with | _ => kx_At dC dI (va_A [(x, .inr (5, [.ref xe, .ref xn, .int 0, .int 1, .int 1, .ref xso, .ref xro, .int 0, .ref xga, .ref xlo, .int (-1), .ref xse, .ref xwa, .ref xst, .ref xou, .ref xdr]))] sz) [] [] t) (va_A [(x, .inr (5, [.ref xe, .ref xn, .int 0, .int 1, .int 1, .ref xso, .ref xro, .int 0, .ref xga, .ref xlo, .int (-1), .ref xse, .ref xwa, .ref xst, .ref xou, .ref xdr]))] sz)) (vx_X (fun _ : Unit => True) (fun E _ _ => E = "java/util/NoSuchElementException") (va_A [(x, .inr (5, [.ref xe, .ref xn, .int 0, .int 1, .int 1, .ref xso, .ref xro, .int 0, .ref xga, .ref xlo, .int (-1), .ref xse, .ref xwa, .ref xst, .ref xou, .ref xdr]))] sz)) 1 6 (va_A [(x, .inr (5, [.ref xe, .ref xn, .int 0, .int 1, .int 1, .ref xso, .ref xro, .int 0, .ref xga, .ref xlo, .int (-1), .ref xse, .ref xwa, .ref xst, .ref xou, .ref xdr]))] sz) := by
  refine vx_ofW (cc := cX5_needEntry) (maxL := 2) (ret := none) (by decide) rfl ?_
  intro p e s m args below meth c s₁ B hml htab hv
  obtain ⟨rfl, hsz, hP, hK, hD0, hG, hZ⟩ := hv
  have hx := B.exec
  have hb := B.bytes
  have hr := B.returns
  have hts := kx_hts (a := #[.ref x, .int e0]) hG
  have hown : s.vm.findClass RX5 = some m.cls := findClass_of_methodNamed B.named
  have hlocks := B.notSynchronized
  subst hsz
  have hD := hD0.self (sz := s.heap.size)
  generalize hAe : va_A [(x, .inr (5, [.ref xe, .ref xn, .int 0, .int 1, .int 1, .ref xso, .ref xro, .int 0, .ref xga, .ref xlo, .int (-1), .ref xse, .ref xwa, .ref xst, .ref xou, .ref xdr]))] s.heap.size = A at hD hZ ⊢
  have hA : ∀ q : Nat, s.heap.size ≤ q → A q := fun q h => by rw [← hAe]; exact Or.inr h
  have hS : va_S A s.heap s.heap [] := va_S.rf
  have hP : va_P (dC, dI) kxCl [(x, .inr (5, [.ref xe, .ref xn, .int 0, .int 1, .int 1, .ref xso, .ref xro, .int 0, .ref xga, .ref xlo, .int (-1), .ref xse, .ref xwa, .ref xst, .ref xou, .ref xdr]))] s.heap := hP
  have hl := lv_entry ([.ref x, .int e0]) (n := 2) (Nat.le_of_ble_eq_true rfl)
  rw [lg_entry_eq]
  generalize (lg_sl ([.ref x, .int e0]) ++ List.replicate (2 - (lg_sl ([.ref x, .int e0])).length) Slot.unset).toArray = ls at hl ⊢
  have hl : lv_has ls 2 [(0, .ref x), (1, .int e0)] := hl
  refine lv_aload_n hx hb dX5_needEntry_0 rfl (lv_at hl 0 rfl) ?_
  refine lv_iload_n hx hb dX5_needEntry_1 rfl (lv_at hl 1 rfl) ?_
  have hPc := hP.sub (ws' := [(x, .inr (5, [.ref xe, .ref xn, .int 0, .int 1, .int 1, .ref xso, .ref xro, .int 0, .ref xga, .ref xlo, .int (-1), .ref xse, .ref xwa, .ref xst, .ref xou, .ref xdr]))]) [0] rfl
  have hDc := hD.sub (ws' := [(x, .inr (5, [.ref xe, .ref xn, .int 0, .int 1, .int 1, .ref xso, .ref xro, .int 0, .ref xga, .ref xlo, .int (-1), .ref xse, .ref xwa, .ref xst, .ref xou, .ref xdr]))]) [0] (by decide) rfl
  have hKc := hK.sub (tys' := []) [] rfl
  have hFc := va_free (wc := [(x, .inr (5, [.ref xe, .ref xn, .int 0, .int 1, .int 1, .ref xso, .ref xro, .int 0, .ref xga, .ref xlo, .int (-1), .ref xse, .ref xwa, .ref xst, .ref xou, .ref xdr]))]) hD hS hA [0] rfl
  refine va_calli (va_runV (As := [.int e0]) (rest := []) ⟨hx, hb, hml, hown, hts⟩ (c_isEntry l hlf dC dI x xe xn xso xro xga xlo xse xwa xst xou xdr e0 s.heap.size ) (cwV 1 hts (kx_gV kq_89 kq_90 kq_91 kq_92 kq_93 rfl) rfl rfl rfl (by decide +kernel) ⟨Nat.le_of_ble_eq_true rfl, Nat.le_of_ble_eq_true rfl⟩) ⟨kx_blind, va_recv hKc hPc (ci := 5) (q0 := 0) rfl rfl, kx_give (ws := []) (tys := []) hPc hDc hKc hG hZ hS hFc⟩ rfl rfl hl.1 rfl (lv_room (Nat.le_of_ble_eq_true rfl)) dX5_needEntry_2 ⟨Nat.le_of_ble_eq_true rfl, Nat.le_of_ble_eq_true rfl⟩) hS (fun q _ h => hFc q h) hFc (fun r_1 u t H1 locs ht hvm hw_2 hB hz1 hk1 hS => ?_)
  obtain ⟨hP1, hK1, hD1⟩ := hB
  rw [ht] at hP1
  have hK1 := va_K.moved hvm.symm hK1
  try dsimp only at hw_2
  obtain ⟨hP, hD⟩ := va_join (wr := []) (w1 := [(x, .inr (5, [.ref xe, .ref xn, .int 0, .int 1, .int 1, .ref xso, .ref xro, .int 0, .ref xga, .ref xlo, .int (-1), .ref xse, .ref xwa, .ref xst, .ref xou, .ref xdr]))]) hP hD [0] [] rfl rfl (by decide) (by decide) hk1 hFc hP1 hD1
  have hK := (hK.sub (tys' := []) [] rfl).app hK1
  generalize H1 = H at hP hS ⊢
  have hP : va_P (dC, dI) kxCl [(x, .inr (5, [.ref xe, .ref xn, .int 0, .int 1, .int 1, .ref xso, .ref xro, .int 0, .ref xga, .ref xlo, .int (-1), .ref xse, .ref xwa, .ref xst, .ref xou, .ref xdr]))] H := hP
  have hD : va_D A [(x, .inr (5, [.ref xe, .ref xn, .int 0, .int 1, .int 1, .ref xso, .ref xro, .int 0, .ref xga, .ref xlo, .int (-1), .ref xse, .ref xwa, .ref xst, .ref xou, .ref xdr]))] := hD
  have hK : va_K (dC, dI) kxCl [] s := hK
  subst hw_2
  refine lv_if_ne (tgt := 16) hx hb dX5_needEntry_5 (by decide) (fun c_3 => ?_) (fun c_3 => ?_)
  · exact absurd c_3 (by decide)
  · skip
    exact kx_thr_NSE hx hb hlf hown hG hZ hS (hl.1.trans hml.symm) dX5_needEntry_8 dX5_needEntry_11 dX5_needEntry_12 dX5_needEntry_15 htab (Nat.le_of_ble_eq_true rfl) (Nat.le_of_ble_eq_true rfl) (Nat.le_of_ble_eq_true rfl) (Nat.le_of_ble_eq_true rfl) hlocks (fun t hvm hF => ⟨(), trivial, rfl, hF⟩) hS.2.2 (by omega) (by omega)
set_option maxHeartbeats 4000000 in
set_option maxRecDepth 100000 in
theorem c_isLevelBefore (l : Launch) (hlf : l.stackTraces = false) (dC : Nat → ClassId) (dI : Nat → Nat → Nat) (x : Nat) (xe : Nat) (xn : Nat) (xso : Nat) (xro : Nat) (xga : Nat) (xlo : Nat) (xse : Nat) (xwa : Nat) (xst : Nat) (xou : Nat) (xdr : Nat) (ab : Int32) (lv : Int32) (sz : Nat) (hab : ab = -1) : Met l yX5_isLevelBefore [.code yX5_isLevelBefore cX5_isLevelBefore 3 (some .boolean)] ({ frames := 0, cells := 0, slots := 0, locals := 0 }) (va_Pc [.ref x, .int ab, .int lv] (kx_Pre dC dI [(x, .inr (5, [.ref xe, .ref xn, .int 0, .int 1, .int 1, .ref xso, .ref xro, .int 0, .ref xga, .ref xlo, .int (-1), .ref xse, .ref xwa, .ref xst, .ref xou, .ref xdr]))] [] sz)) (va_Qi (fun (r : Int32) (u : Unit) => match u with | _ => r = if lv = 0 then 1 else 0) (fun (u : Unit) (t : State) => match u with | _ => kx_At dC dI (va_A [(x, .inr (5, [.ref xe, .ref xn, .int 0, .int 1, .int 1, .ref xso, .ref xro, .int 0, .ref xga, .ref xlo, .int (-1), .ref xse, .ref xwa, .ref xst, .ref xou, .ref xdr]))] sz) [(x, .inr (5, [.ref xe, .ref xn, .int 0, .int 1, .int 1, .ref xso, .ref xro, .int 0, .ref xga, .ref xlo, .int (-1), .ref xse, .ref xwa, .ref xst, .ref xou, .ref xdr]))] [] t) (va_A [(x, .inr (5, [.ref xe, .ref xn, .int 0, .int 1, .int 1, .ref xso, .ref xro, .int 0, .ref xga, .ref xlo, .int (-1), .ref xse, .ref xwa, .ref xst, .ref xou, .ref xdr]))] sz)) 0 0 (va_A [(x, .inr (5, [.ref xe, .ref xn, .int 0, .int 1, .int 1, .ref xso, .ref xro, .int 0, .ref xga, .ref xlo, .int (-1), .ref xse, .ref xwa, .ref xst, .ref xou, .ref xdr]))] sz) := by
  refine Met.ofW (cc := cX5_isLevelBefore) (maxL := 3) (ret := (some .boolean)) (by decide) rfl ?_
  intro p e s m args below meth c s₁ B hml hv
  obtain ⟨rfl, hsz, hP, hK, hD0, hG, hZ⟩ := hv
  have hx := B.exec
  have hb := B.bytes
  have hr := B.returns
  have hts := kx_hts (a := #[.ref x, .int ab, .int lv]) hG
  have hown : s.vm.findClass RX5 = some m.cls := findClass_of_methodNamed B.named
  have hlocks := B.notSynchronized
  subst hsz
  have hD := hD0.self (sz := s.heap.size)
  generalize hAe : va_A [(x, .inr (5, [.ref xe, .ref xn, .int 0, .int 1, .int 1, .ref xso, .ref xro, .int 0, .ref xga, .ref xlo, .int (-1), .ref xse, .ref xwa, .ref xst, .ref xou, .ref xdr]))] s.heap.size = A at hD hZ ⊢
  have hA : ∀ q : Nat, s.heap.size ≤ q → A q := fun q h => by rw [← hAe]; exact Or.inr h
  have hS : va_S A s.heap s.heap [] := va_S.rf
  have hP : va_P (dC, dI) kxCl [(x, .inr (5, [.ref xe, .ref xn, .int 0, .int 1, .int 1, .ref xso, .ref xro, .int 0, .ref xga, .ref xlo, .int (-1), .ref xse, .ref xwa, .ref xst, .ref xou, .ref xdr]))] s.heap := hP
  have hl := lv_entry ([.ref x, .int ab, .int lv]) (n := 3) (Nat.le_of_ble_eq_true rfl)
  rw [lg_entry_eq]
  generalize (lg_sl ([.ref x, .int ab, .int lv]) ++ List.replicate (3 - (lg_sl ([.ref x, .int ab, .int lv])).length) Slot.unset).toArray = ls at hl ⊢
  have hl : lv_has ls 3 [(0, .ref x), (1, .int ab), (2, .int lv)] := hl
  refine lv_iload_n hx hb dX5_isLevelBefore_0 rfl (lv_at hl 2 rfl) ?_
  refine lv_if_ne (tgt := 17) hx hb dX5_isLevelBefore_1 (by decide) (fun c_1 => ?_) (fun c_1 => ?_)
  · skip
    refine lv_iload_n hx hb dX5_isLevelBefore_17 rfl (lv_at hl 1 rfl) ?_
    refine lv_iconst (v := (-1)) hx hb dX5_isLevelBefore_18 (by decide) ?_
    refine lv_icmp_eq (tgt := 40) hx hb dX5_isLevelBefore_19 (by decide) (fun c_2 => ?_) (fun c_2 => ?_)
    · skip
      refine lv_iconst (v := 0) hx hb dX5_isLevelBefore_40 (by decide) ?_
      have hP9 := hP.sub (ws' := [(x, .inr (5, [.ref xe, .ref xn, .int 0, .int 1, .int 1, .ref xso, .ref xro, .int 0, .ref xga, .ref xlo, .int (-1), .ref xse, .ref xwa, .ref xst, .ref xou, .ref xdr]))]) [0] rfl
      have hD9 := hD.sub (ws' := [(x, .inr (5, [.ref xe, .ref xn, .int 0, .int 1, .int 1, .ref xso, .ref xro, .int 0, .ref xga, .ref xlo, .int (-1), .ref xse, .ref xwa, .ref xst, .ref xou, .ref xdr]))]) [0] (by decide) rfl
      have hK9 := hK.sub (tys' := []) [] rfl
      exact W.zret (v := 0) hx hb hr (by decide) (fun t ht hW => ⟨⟨0, (), rfl, (by rw [if_neg c_1]), by rw [ht]; exact hP9, va_K.moved hW.alike hK9, hD9⟩, hS.F ht⟩) hS.2.2 dX5_isLevelBefore_41
    · exact absurd hab c_2
  · skip
    refine lv_iload_n hx hb dX5_isLevelBefore_4 rfl (lv_at hl 1 rfl) ?_
    refine lv_iconst (v := (-1)) hx hb dX5_isLevelBefore_5 (by decide) ?_
    refine lv_icmp_ne (tgt := 13) hx hb dX5_isLevelBefore_6 (by decide) (fun c_3 => ?_) (fun c_3 => ?_)
    · exact absurd hab c_3
    · skip
      refine lv_iconst (v := 1) hx hb dX5_isLevelBefore_9 (by decide) ?_
      refine lv_goto (tgt := 41) hx hb dX5_isLevelBefore_10 (by decide) ?_
      have hP9 := hP.sub (ws' := [(x, .inr (5, [.ref xe, .ref xn, .int 0, .int 1, .int 1, .ref xso, .ref xro, .int 0, .ref xga, .ref xlo, .int (-1), .ref xse, .ref xwa, .ref xst, .ref xou, .ref xdr]))]) [0] rfl
      have hD9 := hD.sub (ws' := [(x, .inr (5, [.ref xe, .ref xn, .int 0, .int 1, .int 1, .ref xso, .ref xro, .int 0, .ref xga, .ref xlo, .int (-1), .ref xse, .ref xwa, .ref xst, .ref xou, .ref xdr]))]) [0] (by decide) rfl
      have hK9 := hK.sub (tys' := []) [] rfl
      exact W.zret (v := 1) hx hb hr (by decide) (fun t ht hW => ⟨⟨1, (), rfl, (by rw [if_pos c_1]), by rw [ht]; exact hP9, va_K.moved hW.alike hK9, hD9⟩, hS.F ht⟩) hS.2.2 dX5_isLevelBefore_41
set_option maxHeartbeats 4000000 in
set_option maxRecDepth 100000 in
theorem c_forgetRows (l : Launch) (hlf : l.stackTraces = false) (dC : Nat → ClassId) (dI : Nat → Nat → Nat) (x : Nat) (xe : Nat) (xn : Nat) (xso : Nat) (xro : Nat) (xga : Nat) (xlo : Nat) (xse : Nat) (xwa : Nat) (xst : Nat) (xou : Nat) (xdr : Nat) (cnt : Int32) (dig : Int32) (wor : Int32) (kn : Int32) (lof : Int32) (sz : Nat) : Met l yX5_forgetRows [.code yX5_forgetRows cX5_forgetRows 1 none] ({ frames := 0, cells := 0, slots := 0, locals := 0 }) (va_Pc [.ref x] (kx_Pre dC dI [(x, .inr (5, [.ref xe, .ref xn, .int cnt, .int dig, .int wor, .ref xso, .ref xro, .int kn, .ref xga, .ref xlo, .int lof, .ref xse, .ref xwa, .ref xst, .ref xou, .ref xdr]))] [] sz)) (va_Qv (fun u : Unit => match u with | _ => True) (fun (u : Unit) (t : State) => match u with | _ => kx_At dC dI (va_A [(x, .inr (5, [.ref xe, .ref xn, .int cnt, .int dig, .int wor, .ref xso, .ref xro, .int kn, .ref xga, .ref xlo, .int lof, .ref xse, .ref xwa, .ref xst, .ref xou, .ref xdr]))] sz) [(x, .inr (5, [.ref xe, .ref xn, .int cnt, .int dig, .int wor, .ref xso, .ref xro, .int 0, .ref xga, .ref xlo, .int (-1), .ref xse, .ref xwa, .ref xst, .ref xou, .ref xdr]))] [] t) (va_A [(x, .inr (5, [.ref xe, .ref xn, .int cnt, .int dig, .int wor, .ref xso, .ref xro, .int kn, .ref xga, .ref xlo, .int lof, .ref xse, .ref xwa, .ref xst, .ref xou, .ref xdr]))] sz)) 0 0 (va_A [(x, .inr (5, [.ref xe, .ref xn, .int cnt, .int dig, .int wor, .ref xso, .ref xro, .int kn, .ref xga, .ref xlo, .int lof, .ref xse, .ref xwa, .ref xst, .ref xou, .ref xdr]))] sz) := by
  refine Met.ofW (cc := cX5_forgetRows) (maxL := 1) (ret := none) (by decide) rfl ?_
  intro p e s m args below meth c s₁ B hml hv
  obtain ⟨rfl, hsz, hP, hK, hD0, hG, hZ⟩ := hv
  have hx := B.exec
  have hb := B.bytes
  have hr := B.returns
  have hts := kx_hts (a := #[.ref x]) hG
  have hown : s.vm.findClass RX5 = some m.cls := findClass_of_methodNamed B.named
  have hlocks := B.notSynchronized
  subst hsz
  have hD := hD0.self (sz := s.heap.size)
  generalize hAe : va_A [(x, .inr (5, [.ref xe, .ref xn, .int cnt, .int dig, .int wor, .ref xso, .ref xro, .int kn, .ref xga, .ref xlo, .int lof, .ref xse, .ref xwa, .ref xst, .ref xou, .ref xdr]))] s.heap.size = A at hD hZ ⊢
  have hA : ∀ q : Nat, s.heap.size ≤ q → A q := fun q h => by rw [← hAe]; exact Or.inr h
  have hS : va_S A s.heap s.heap [] := va_S.rf
  have hP : va_P (dC, dI) kxCl [(x, .inr (5, [.ref xe, .ref xn, .int cnt, .int dig, .int wor, .ref xso, .ref xro, .int kn, .ref xga, .ref xlo, .int lof, .ref xse, .ref xwa, .ref xst, .ref xou, .ref xdr]))] s.heap := hP
  have hl := lv_entry ([.ref x]) (n := 1) (Nat.le_of_ble_eq_true rfl)
  rw [lg_entry_eq]
  generalize (lg_sl ([.ref x]) ++ List.replicate (1 - (lg_sl ([.ref x])).length) Slot.unset).toArray = ls at hl ⊢
  have hl : lv_has ls 1 [(0, .ref x)] := hl
  refine lv_aload_n hx hb dX5_forgetRows_0 rfl (lv_at hl 0 rfl) ?_
  refine lv_iconst (v := 0) hx hb dX5_forgetRows_1 (by decide) ?_
  refine va_put (D := (dC, dI)) (ci := 5) (v := .int 0) (ty := .boolean) (C := RX5) (T := TX5) (N := 16) hx hb hts kt_X5 tyX5 tyX5_ok nmX5 hown hK hP hD hS 0 rfl rfl 7 (by decide) (kx_word hG kq_66 rfl) (fun _ h9 => h9) rfl (by decide +kernel) (by decide) (by decide) (Nat.le_of_ble_eq_true rfl) dX5_forgetRows_2 (fun H locs hP hD hS => ?_)
  have hP : va_P (dC, dI) kxCl [(x, .inr (5, [.ref xe, .ref xn, .int cnt, .int dig, .int wor, .ref xso, .ref xro, .int 0, .ref xga, .ref xlo, .int lof, .ref xse, .ref xwa, .ref xst, .ref xou, .ref xdr]))] H := hP
  have hD : va_D A [(x, .inr (5, [.ref xe, .ref xn, .int cnt, .int dig, .int wor, .ref xso, .ref xro, .int 0, .ref xga, .ref xlo, .int lof, .ref xse, .ref xwa, .ref xst, .ref xou, .ref xdr]))] := hD
  refine lv_aload_n hx hb dX5_forgetRows_5 rfl (lv_at hl 0 rfl) ?_
  refine lv_iconst (v := (-1)) hx hb dX5_forgetRows_6 (by decide) ?_
  refine va_put (D := (dC, dI)) (ci := 5) (v := .int (-1)) (ty := .int) (C := RX5) (T := TX5) (N := 16) hx hb hts kt_X5 tyX5 tyX5_ok nmX5 hown hK hP hD hS 0 rfl rfl 10 (by decide) (kx_word hG kq_71 rfl) (fun _ h9 => h9) rfl (by decide +kernel) rfl rfl (Nat.le_of_ble_eq_true rfl) dX5_forgetRows_7 (fun H locs hP hD hS => ?_)
  have hP : va_P (dC, dI) kxCl [(x, .inr (5, [.ref xe, .ref xn, .int cnt, .int dig, .int wor, .ref xso, .ref xro, .int 0, .ref xga, .ref xlo, .int (-1), .ref xse, .ref xwa, .ref xst, .ref xou, .ref xdr]))] H := hP
  have hD : va_D A [(x, .inr (5, [.ref xe, .ref xn, .int cnt, .int dig, .int wor, .ref xso, .ref xro, .int 0, .ref xga, .ref xlo, .int (-1), .ref xse, .ref xwa, .ref xst, .ref xou, .ref xdr]))] := hD
  have hP9 := hP.sub (ws' := [(x, .inr (5, [.ref xe, .ref xn, .int cnt, .int dig, .int wor, .ref xso, .ref xro, .int 0, .ref xga, .ref xlo, .int (-1), .ref xse, .ref xwa, .ref xst, .ref xou, .ref xdr]))]) [0] rfl
  have hD9 := hD.sub (ws' := [(x, .inr (5, [.ref xe, .ref xn, .int cnt, .int dig, .int wor, .ref xso, .ref xro, .int 0, .ref xga, .ref xlo, .int (-1), .ref xse, .ref xwa, .ref xst, .ref xou, .ref xdr]))]) [0] (by decide) rfl
  have hK9 := hK.sub (tys' := []) [] rfl
  exact W.vret hx hb hr (fun t ht hW => ⟨⟨(), rfl, trivial, by rw [ht]; exact hP9, va_K.moved hW.alike hK9, hD9⟩, hS.F ht⟩) hS.2.2 dX5_forgetRows_10
set_option maxHeartbeats 4000000 in
set_option maxRecDepth 100000 in
theorem c_entry (l : Launch) (hlf : l.stackTraces = false) (dC : Nat → ClassId) (dI : Nat → Nat → Nat) (x : Nat) (xe : Nat) (xn : Nat) (xso : Nat) (xro : Nat) (xga : Nat) (xlo : Nat) (xse : Nat) (xwa : Nat) (xst : Nat) (xou : Nat) (xdr : Nat) (cE : ClassId) (lv : Int32) (ab : Int32) (sz : Nat) : vx_Met l yX5_entry [.code yX5_entry cX5_entry 3 (some .int)] ({ frames := 7, cells := 16, slots := 36, locals := 100 }) (va_Pc [.ref x, .int lv, .int ab] (kx_Pre dC dI [(x, .inr (5, [.ref xe, .ref xn, .int 0, .int 1, .int 1, .ref xso, .ref xro, .int 0, .ref xga, .ref xlo, .int (-1), .ref xse, .ref xwa, .ref xst, .ref xou, .ref xdr])), (xe, .inl (cE, 80, .inr (.inr (.inr (.inr (fun _ => none))))))] [(cE, .object RX0)] sz)) (va_Qi (fun (r : Int32) (u : Unit) => match u with | _ => r = 0 ∧ ek_entry lv ab = 0) (fun (u : Unit) (t : State) => match u with | _ => kx_At dC dI (va_A [(x, .inr (5, [.ref xe, .ref xn, .int 0, .int 1, .int 1, .ref xso, .ref xro, .int 0, .ref xga, .ref xlo, .int (-1), .ref xse, .ref xwa, .ref xst, .ref xou, .ref xdr])), (xe, .inl (cE, 80, .inr (.inr (.inr (.inr (fun _ => none))))))] sz) [] [] t) (va_A [(x, .inr (5, [.ref xe, .ref xn, .int 0, .int 1, .int 1, .ref xso, .ref xro, .int 0, .ref xga, .ref xlo, .int (-1), .ref xse, .ref xwa, .ref xst, .ref xou, .ref xdr])), (xe, .inl (cE, 80, .inr (.inr (.inr (.inr (fun _ => none))))))] sz)) (vx_X (fun _ : Unit => True) (fun E _ _ => (E = "java/util/NoSuchElementException" ∧ ek_entry lv ab = 1) ∨ (E = "java/lang/IllegalArgumentException" ∧ ek_entry lv ab = 2)) (va_A [(x, .inr (5, [.ref xe, .ref xn, .int 0, .int 1, .int 1, .ref xso, .ref xro, .int 0, .ref xga, .ref xlo, .int (-1), .ref xse, .ref xwa, .ref xst, .ref xou, .ref xdr])), (xe, .inl (cE, 80, .inr (.inr (.inr (.inr (fun _ => none))))))] sz)) 16 36 (va_A [(x, .inr (5, [.ref xe, .ref xn, .int 0, .int 1, .int 1, .ref xso, .ref xro, .int 0, .ref xga, .ref xlo, .int (-1), .ref xse, .ref xwa, .ref xst, .ref xou, .ref xdr])), (xe, .inl (cE, 80, .inr (.inr (.inr (.inr (fun _ => none))))))] sz) := by
  refine vx_ofW (cc := cX5_entry) (maxL := 3) (ret := (some .int)) (by decide) rfl ?_
  intro p e s m args below meth c s₁ B hml htab hv
  obtain ⟨rfl, hsz, hP, hK, hD0, hG, hZ⟩ := hv
  have hx := B.exec
  have hb := B.bytes
  have hr := B.returns
  have hts := kx_hts (a := #[.ref x, .int lv, .int ab]) hG
  have hown : s.vm.findClass RX5 = some m.cls := findClass_of_methodNamed B.named
  have hlocks := B.notSynchronized
  subst hsz
  have hD := hD0.self (sz := s.heap.size)
  generalize hAe : va_A [(x, .inr (5, [.ref xe, .ref xn, .int 0, .int 1, .int 1, .ref xso, .ref xro, .int 0, .ref xga, .ref xlo, .int (-1), .ref xse, .ref xwa, .ref xst, .ref xou, .ref xdr])), (xe, .inl (cE, 80, .inr (.inr (.inr (.inr (fun _ => none))))))] s.heap.size = A at hD hZ ⊢
  have hA : ∀ q : Nat, s.heap.size ≤ q → A q := fun q h => by rw [← hAe]; exact Or.inr h
  have hS : va_S A s.heap s.heap [] := va_S.rf
  have hP : va_P (dC, dI) kxCl [(x, .inr (5, [.ref xe, .ref xn, .int 0, .int 1, .int 1, .ref xso, .ref xro, .int 0, .ref xga, .ref xlo, .int (-1), .ref xse, .ref xwa, .ref xst, .ref xou, .ref xdr])), (xe, .inl (cE, 80, .inr (.inr (.inr (.inr (fun _ => none))))))] s.heap := hP
  have hl := lv_entry ([.ref x, .int lv, .int ab]) (n := 3) (Nat.le_of_ble_eq_true rfl)
  rw [lg_entry_eq]
  generalize (lg_sl ([.ref x, .int lv, .int ab]) ++ List.replicate (3 - (lg_sl ([.ref x, .int lv, .int ab])).length) Slot.unset).toArray = ls at hl ⊢
  have hl : lv_has ls 3 [(0, .ref x), (1, .int lv), (2, .int ab)] := hl
  refine lv_iload_n hx hb dX5_entry_0 rfl (lv_at hl 2 rfl) ?_
  refine lv_iconst (v := (-1)) hx hb dX5_entry_1 (by decide) ?_
  refine lv_icmp_eq (tgt := 21) hx hb dX5_entry_2 (by decide) (fun c_1 => ?_) (fun c_1 => ?_)
  · skip
    refine lv_iload_n hx hb dX5_entry_21 rfl (lv_at hl 1 rfl) ?_
    refine lv_if_lt (tgt := 39) hx hb dX5_entry_22 (by decide) (fun c_2 => ?_) (fun c_2 => ?_)
    · skip
      exact kx_thr_IAE hx hb hlf hown hG hZ hS (hl.1.trans hml.symm) dX5_entry_39 dX5_entry_42 dX5_entry_43 dX5_entry_46 htab (Nat.le_of_ble_eq_true rfl) (Nat.le_of_ble_eq_true rfl) (Nat.le_of_ble_eq_true rfl) (Nat.le_of_ble_eq_true rfl) hlocks (fun t hvm hF => ⟨(), trivial, Or.inr ⟨rfl, ek_e2 c_1 (kz_lt c_2)⟩, hF⟩) hS.2.2 (by omega) (by omega)
    · skip
      refine lv_iload_n hx hb dX5_entry_25 rfl (lv_at hl 1 rfl) ?_
      refine lv_iconst (v := 3) hx hb dX5_entry_26 (by decide) ?_
      refine lv_icmp_ge (tgt := 39) hx hb dX5_entry_27 (by decide) (fun c_3 => ?_) (fun c_3 => ?_)
      · skip
        exact kx_thr_IAE hx hb hlf hown hG hZ hS (hl.1.trans hml.symm) dX5_entry_39 dX5_entry_42 dX5_entry_43 dX5_entry_46 htab (Nat.le_of_ble_eq_true rfl) (Nat.le_of_ble_eq_true rfl) (Nat.le_of_ble_eq_true rfl) (Nat.le_of_ble_eq_true rfl) hlocks (fun t hvm hF => ⟨(), trivial, Or.inr ⟨rfl, ek_e2 c_1 (kz_ge3 c_3)⟩, hF⟩) hS.2.2 (by omega) (by omega)
      · skip
        refine lv_aload_n hx hb dX5_entry_30 rfl (lv_at hl 0 rfl) ?_
        refine lv_iload_n hx hb dX5_entry_31 rfl (lv_at hl 2 rfl) ?_
        refine lv_iload_n hx hb dX5_entry_32 rfl (lv_at hl 1 rfl) ?_
        have hPc := hP.sub (ws' := [(x, .inr (5, [.ref xe, .ref xn, .int 0, .int 1, .int 1, .ref xso, .ref xro, .int 0, .ref xga, .ref xlo, .int (-1), .ref xse, .ref xwa, .ref xst, .ref xou, .ref xdr]))]) [0] rfl
        have hDc := hD.sub (ws' := [(x, .inr (5, [.ref xe, .ref xn, .int 0, .int 1, .int 1, .ref xso, .ref xro, .int 0, .ref xga, .ref xlo, .int (-1), .ref xse, .ref xwa, .ref xst, .ref xou, .ref xdr]))]) [0] (by decide) rfl
        have hKc := hK.sub (tys' := []) [] rfl
        have hFc := va_free (wc := [(x, .inr (5, [.ref xe, .ref xn, .int 0, .int 1, .int 1, .ref xso, .ref xro, .int 0, .ref xga, .ref xlo, .int (-1), .ref xse, .ref xwa, .ref xst, .ref xou, .ref xdr]))]) hD hS hA [0] rfl
        refine va_calli (va_runV (As := [.int ab, .int lv]) (rest := []) ⟨hx, hb, hml, hown, hts⟩ (c_isLevelBefore l hlf dC dI x xe xn xso xro xga xlo xse xwa xst xou xdr ab lv s.heap.size c_1) (cwV 2 hts (kx_gV kq_94 kq_95 kq_96 kq_92 kq_97 rfl) rfl rfl rfl (by decide +kernel) ⟨Nat.le_of_ble_eq_true rfl, Nat.le_of_ble_eq_true rfl⟩) ⟨kx_blind, va_recv hKc hPc (ci := 5) (q0 := 0) rfl rfl, kx_give (ws := []) (tys := []) hPc hDc hKc hG hZ hS hFc⟩ rfl rfl hl.1 rfl (lv_room (Nat.le_of_ble_eq_true rfl)) dX5_entry_33 ⟨Nat.le_of_ble_eq_true rfl, Nat.le_of_ble_eq_true rfl⟩) hS (fun q _ h => hFc q h) hFc (fun r_4 u t H1 locs ht hvm hw_5 hB hz1 hk1 hS => ?_)
        obtain ⟨hP1, hK1, hD1⟩ := hB
        rw [ht] at hP1
        have hK1 := va_K.moved hvm.symm hK1
        try dsimp only at hw_5
        obtain ⟨hP, hD⟩ := va_join (wr := [(xe, .inl (cE, 80, .inr (.inr (.inr (.inr (fun _ => none))))))]) (w1 := [(x, .inr (5, [.ref xe, .ref xn, .int 0, .int 1, .int 1, .ref xso, .ref xro, .int 0, .ref xga, .ref xlo, .int (-1), .ref xse, .ref xwa, .ref xst, .ref xou, .ref xdr]))]) hP hD [0] [1] rfl rfl (by decide) (by decide) hk1 hFc hP1 hD1
        have hK := (hK.sub (tys' := [(cE, .object RX0)]) [0] rfl).app hK1
        generalize H1 = H at hP hS ⊢
        have hP : va_P (dC, dI) kxCl [(xe, .inl (cE, 80, .inr (.inr (.inr (.inr (fun _ => none)))))), (x, .inr (5, [.ref xe, .ref xn, .int 0, .int 1, .int 1, .ref xso, .ref xro, .int 0, .ref xga, .ref xlo, .int (-1), .ref xse, .ref xwa, .ref xst, .ref xou, .ref xdr]))] H := hP
        have hD : va_D A [(xe, .inl (cE, 80, .inr (.inr (.inr (.inr (fun _ => none)))))), (x, .inr (5, [.ref xe, .ref xn, .int 0, .int 1, .int 1, .ref xso, .ref xro, .int 0, .ref xga, .ref xlo, .int (-1), .ref xse, .ref xwa, .ref xst, .ref xou, .ref xdr]))] := hD
        have hK : va_K (dC, dI) kxCl [(cE, .object RX0)] s := hK
        refine lv_if_ne (tgt := 47) hx hb dX5_entry_36 (by decide) (fun c_6 => ?_) (fun c_6 => ?_)
        · skip
          refine lv_aload_n hx hb dX5_entry_47 rfl (lv_at hl 0 rfl) ?_
          refine va_get (D := (dC, dI)) (ci := 5) (v := .int 0) (C := RX5) (T := TX5) (N := 16) hx hb hts kt_X5 hown hK hP 1 rfl rfl 2 (by decide) (kx_word hG kq_59 rfl) (fun _ h9 => h9) rfl dX5_entry_48 ?_
          refine lv_if_lt (tgt := 66) hx hb dX5_entry_51 (by decide) (fun c_7 => ?_) (fun c_7 => ?_)
          · exact absurd c_7 (by decide)
          · skip
            refine lv_aload_n hx hb dX5_entry_54 rfl (lv_at hl 0 rfl) ?_
            refine va_get (D := (dC, dI)) (ci := 5) (v := .int 0) (C := RX5) (T := TX5) (N := 16) hx hb hts kt_X5 hown hK hP 1 rfl rfl 2 (by decide) (kx_word hG kq_59 rfl) (fun _ h9 => h9) rfl dX5_entry_55 ?_
            refine lv_aload_n hx hb dX5_entry_58 rfl (lv_at hl 0 rfl) ?_
            refine va_get (D := (dC, dI)) (ci := 5) (v := .ref xe) (C := RX5) (T := TX5) (N := 16) hx hb hts kt_X5 hown hK hP 1 rfl rfl 0 (by decide) (kx_word hG kq_52 rfl) (fun _ h9 => h9) rfl dX5_entry_59 ?_
            refine va_alen (v := 80) hx hb hK hP 0 0 rfl rfl (show Int32.ofNat 80 = 80 by decide) dX5_entry_62 ?_
            refine lv_icmp_lt (tgt := 74) hx hb dX5_entry_63 (by decide) (fun c_8 => ?_) (fun c_8 => ?_)
            · skip
              refine lv_aload_n hx hb dX5_entry_74 rfl (lv_at hl 0 rfl) ?_
              refine va_get (D := (dC, dI)) (ci := 5) (v := .ref xe) (C := RX5) (T := TX5) (N := 16) hx hb hts kt_X5 hown hK hP 1 rfl rfl 0 (by decide) (kx_word hG kq_52 rfl) (fun _ h9 => h9) rfl dX5_entry_75 ?_
              refine lv_aload_n hx hb dX5_entry_78 rfl (lv_at hl 0 rfl) ?_
              refine va_get (D := (dC, dI)) (ci := 5) (v := .int 0) (C := RX5) (T := TX5) (N := 16) hx hb hts kt_X5 hown hK hP 1 rfl rfl 2 (by decide) (kx_word hG kq_59 rfl) (fun _ h9 => h9) rfl dX5_entry_79 ?_
              refine va_new (ci := 0) (fs := [.int 0, .int 0, .null, .null, .null, .null, .null, .int 0, .int 0, .int 0, .int 0, .int 0]) (C := RX0) (T := TX0) (N := 12) hx hb hts kt_X0 tyX0 tyX0_ok hown (kx_word hG kq_50 rfl) (kx_word hG kq_53 rfl) (kx_word hG kq_54 rfl) hK hP hD hS hA rfl (fun j hj => by rcases (show j = 0 ∨ j = 1 ∨ j = 2 ∨ j = 3 ∨ j = 4 ∨ j = 5 ∨ j = 6 ∨ j = 7 ∨ j = 8 ∨ j = 9 ∨ j = 10 ∨ j = 11 by omega) with rfl | rfl | rfl | rfl | rfl | rfl | rfl | rfl | rfl | rfl | rfl | rfl <;> rfl) (Nat.le_of_ble_eq_true rfl) (Nat.le_of_ble_eq_true rfl) dX5_entry_82 (fun q_9 H hP hD hS => ?_)
              have hP : va_P (dC, dI) kxCl [(xe, .inl (cE, 80, .inr (.inr (.inr (.inr (fun _ => none)))))), (x, .inr (5, [.ref xe, .ref xn, .int 0, .int 1, .int 1, .ref xso, .ref xro, .int 0, .ref xga, .ref xlo, .int (-1), .ref xse, .ref xwa, .ref xst, .ref xou, .ref xdr])), (q_9, .inr (0, [.int 0, .int 0, .null, .null, .null, .null, .null, .int 0, .int 0, .int 0, .int 0, .int 0]))] H := hP
              have hD : va_D A [(xe, .inl (cE, 80, .inr (.inr (.inr (.inr (fun _ => none)))))), (x, .inr (5, [.ref xe, .ref xn, .int 0, .int 1, .int 1, .ref xso, .ref xro, .int 0, .ref xga, .ref xlo, .int (-1), .ref xse, .ref xwa, .ref xst, .ref xou, .ref xdr])), (q_9, .inr (0, [.int 0, .int 0, .null, .null, .null, .null, .null, .int 0, .int 0, .int 0, .int 0, .int 0]))] := hD
              refine W.widen (k := 1) (n := 12) (by omega) (by omega) ?_
              refine lv_dup hx hb dX5_entry_85 rfl ?_
              refine lv_iload_n hx hb dX5_entry_86 rfl (lv_at hl 1 rfl) ?_
              refine lv_iload_n hx hb dX5_entry_87 rfl (lv_at hl 2 rfl) ?_
              have hPc := hP.sub (ws' := [(q_9, .inr (0, [.int 0, .int 0, .null, .null, .null, .null, .null, .int 0, .int 0, .int 0, .int 0, .int 0]))]) [2] rfl
              have hDc := hD.sub (ws' := [(q_9, .inr (0, [.int 0, .int 0, .null, .null, .null, .null, .null, .int 0, .int 0, .int 0, .int 0, .int 0]))]) [2] (by decide) rfl
              have hKc := hK.sub (tys' := []) [] rfl
              have hFc := va_free (wc := [(q_9, .inr (0, [.int 0, .int 0, .null, .null, .null, .null, .null, .int 0, .int 0, .int 0, .int 0, .int 0]))]) hD hS hA [2] rfl
              refine va_callv (va_runI (As := [.int lv, .int ab]) (rest := [.ref q_9, .int 0, .ref xe]) ⟨hx, hb, hml, hown, hts⟩ (c_Entry_init l hlf dC dI q_9 lv ab H.size ) (cwI 2 hts (kx_gI kq_55 rfl) rfl rfl rfl (kx_word hG kq_54 rfl) (kx_word hG kq_56 rfl) (kx_word hG kq_57 rfl) rfl (by decide +kernel) ⟨Nat.le_of_ble_eq_true rfl, Nat.le_of_ble_eq_true rfl⟩) ⟨kx_blind, kx_give (ws := []) (tys := []) hPc hDc hKc hG hZ hS hFc⟩ rfl rfl hl.1 rfl (lv_room (Nat.le_of_ble_eq_true rfl)) dX5_entry_88 ⟨Nat.le_of_ble_eq_true rfl, Nat.le_of_ble_eq_true rfl⟩) hS (fun q _ h => hFc q h) hFc (fun u t H1 locs ht hvm hw_11 hB hz1 hk1 hS => ?_)
              obtain ⟨q1_12, q2_13, q3_14, q4_15, q5_16⟩ := u
              obtain ⟨hP1, hK1, hD1⟩ := hB
              rw [ht] at hP1
              have hK1 := va_K.moved hvm.symm hK1
              try dsimp only at hw_11
              obtain ⟨hP, hD⟩ := va_join (wr := [(xe, .inl (cE, 80, .inr (.inr (.inr (.inr (fun _ => none)))))), (x, .inr (5, [.ref xe, .ref xn, .int 0, .int 1, .int 1, .ref xso, .ref xro, .int 0, .ref xga, .ref xlo, .int (-1), .ref xse, .ref xwa, .ref xst, .ref xou, .ref xdr]))]) (w1 := [(q_9, .inr (0, [.int lv, .int ab, .ref q1_12, .ref q2_13, .ref q3_14, .ref q4_15, .ref q5_16, .int (-1), .int (-1), .int 0, .int 0, .int 0]))]) hP hD [2] [0, 1] rfl rfl (by decide) (by decide) hk1 hFc hP1 hD1
              have hK := (hK.sub (tys' := [(cE, .object RX0)]) [0] rfl).app hK1
              generalize H1 = H at hP hS ⊢
              have hP : va_P (dC, dI) kxCl [(xe, .inl (cE, 80, .inr (.inr (.inr (.inr (fun _ => none)))))), (x, .inr (5, [.ref xe, .ref xn, .int 0, .int 1, .int 1, .ref xso, .ref xro, .int 0, .ref xga, .ref xlo, .int (-1), .ref xse, .ref xwa, .ref xst, .ref xou, .ref xdr])), (q_9, .inr (0, [.int lv, .int ab, .ref q1_12, .ref q2_13, .ref q3_14, .ref q4_15, .ref q5_16, .int (-1), .int (-1), .int 0, .int 0, .int 0]))] H := hP
              have hD : va_D A [(xe, .inl (cE, 80, .inr (.inr (.inr (.inr (fun _ => none)))))), (x, .inr (5, [.ref xe, .ref xn, .int 0, .int 1, .int 1, .ref xso, .ref xro, .int 0, .ref xga, .ref xlo, .int (-1), .ref xse, .ref xwa, .ref xst, .ref xou, .ref xdr])), (q_9, .inr (0, [.int lv, .int ab, .ref q1_12, .ref q2_13, .ref q3_14, .ref q4_15, .ref q5_16, .int (-1), .int (-1), .int 0, .int 0, .int 0]))] := hD
              have hK : va_K (dC, dI) kxCl [(cE, .object RX0)] s := hK
              refine W.widen (k := 16) (n := 36) (by omega) (by omega) ?_
              refine va_astq (r := (RX0, TX0, 12)) hx hb hK hP hD hS 0 0 2 0 rfl rfl rfl rfl (show vp_in 0 80 by unfold vp_in; decide) dX5_entry_91 (fun H locs hP hD hS => ?_)
              have hP : va_P (dC, dI) kxCl [(xe, .inl (cE, 80, .inr (.inr (.inr (.inr (va_up (fun _ => none) (0 : Int32).toNatClampNeg (some q_9))))))), (x, .inr (5, [.ref xe, .ref xn, .int 0, .int 1, .int 1, .ref xso, .ref xro, .int 0, .ref xga, .ref xlo, .int (-1), .ref xse, .ref xwa, .ref xst, .ref xou, .ref xdr])), (q_9, .inr (0, [.int lv, .int ab, .ref q1_12, .ref q2_13, .ref q3_14, .ref q4_15, .ref q5_16, .int (-1), .int (-1), .int 0, .int 0, .int 0]))] H := hP
              have hD : va_D A [(xe, .inl (cE, 80, .inr (.inr (.inr (.inr (va_up (fun _ => none) (0 : Int32).toNatClampNeg (some q_9))))))), (x, .inr (5, [.ref xe, .ref xn, .int 0, .int 1, .int 1, .ref xso, .ref xro, .int 0, .ref xga, .ref xlo, .int (-1), .ref xse, .ref xwa, .ref xst, .ref xou, .ref xdr])), (q_9, .inr (0, [.int lv, .int ab, .ref q1_12, .ref q2_13, .ref q3_14, .ref q4_15, .ref q5_16, .int (-1), .int (-1), .int 0, .int 0, .int 0]))] := hD
              refine lv_aload_n hx hb dX5_entry_92 rfl (lv_at hl 0 rfl) ?_
              refine lv_dup hx hb dX5_entry_93 rfl ?_
              refine va_get (D := (dC, dI)) (ci := 5) (v := .int 0) (C := RX5) (T := TX5) (N := 16) hx hb hts kt_X5 hown hK hP 1 rfl rfl 2 (by decide) (kx_word hG kq_59 rfl) (fun _ h9 => h9) rfl dX5_entry_94 ?_
              refine lv_iconst (v := 1) hx hb dX5_entry_97 (by decide) ?_
              refine lv_iadd hx hb dX5_entry_98 ?_
              refine lv_topi (fun x_17 ex_17 => ?_)
              obtain rfl : x_17 = 1 := ex_17.trans (by decide)
              refine va_put (D := (dC, dI)) (ci := 5) (v := .int 1) (ty := .int) (C := RX5) (T := TX5) (N := 16) hx hb hts kt_X5 tyX5 tyX5_ok nmX5 hown hK hP hD hS 1 rfl rfl 2 (by decide) (kx_word hG kq_59 rfl) (fun _ h9 => h9) rfl (by decide +kernel) rfl rfl (Nat.le_of_ble_eq_true rfl) dX5_entry_99 (fun H locs hP hD hS => ?_)
              have hP : va_P (dC, dI) kxCl [(xe, .inl (cE, 80, .inr (.inr (.inr (.inr (va_up (fun _ => none) (0 : Int32).toNatClampNeg (some q_9))))))), (x, .inr (5, [.ref xe, .ref xn, .int 1, .int 1, .int 1, .ref xso, .ref xro, .int 0, .ref xga, .ref xlo, .int (-1), .ref xse, .ref xwa, .ref xst, .ref xou, .ref xdr])), (q_9, .inr (0, [.int lv, .int ab, .ref q1_12, .ref q2_13, .ref q3_14, .ref q4_15, .ref q5_16, .int (-1), .int (-1), .int 0, .int 0, .int 0]))] H := hP
              have hD : va_D A [(xe, .inl (cE, 80, .inr (.inr (.inr (.inr (va_up (fun _ => none) (0 : Int32).toNatClampNeg (some q_9))))))), (x, .inr (5, [.ref xe, .ref xn, .int 1, .int 1, .int 1, .ref xso, .ref xro, .int 0, .ref xga, .ref xlo, .int (-1), .ref xse, .ref xwa, .ref xst, .ref xou, .ref xdr])), (q_9, .inr (0, [.int lv, .int ab, .ref q1_12, .ref q2_13, .ref q3_14, .ref q4_15, .ref q5_16, .int (-1), .int (-1), .int 0, .int 0, .int 0]))] := hD
              refine lv_aload_n hx hb dX5_entry_102 rfl (lv_at hl 0 rfl) ?_
              have hPc := hP.sub (ws' := [(x, .inr (5, [.ref xe, .ref xn, .int 1, .int 1, .int 1, .ref xso, .ref xro, .int 0, .ref xga, .ref xlo, .int (-1), .ref xse, .ref xwa, .ref xst, .ref xou, .ref xdr]))]) [1] rfl
              have hDc := hD.sub (ws' := [(x, .inr (5, [.ref xe, .ref xn, .int 1, .int 1, .int 1, .ref xso, .ref xro, .int 0, .ref xga, .ref xlo, .int (-1), .ref xse, .ref xwa, .ref xst, .ref xou, .ref xdr]))]) [1] (by decide) rfl
              have hKc := hK.sub (tys' := []) [] rfl
              have hFc := va_free (wc := [(x, .inr (5, [.ref xe, .ref xn, .int 1, .int 1, .int 1, .ref xso, .ref xro, .int 0, .ref xga, .ref xlo, .int (-1), .ref xse, .ref xwa, .ref xst, .ref xou, .ref xdr]))]) hD hS hA [1] rfl
              refine va_callv (va_runV (As := []) (rest := []) ⟨hx, hb, hml, hown, hts⟩ (c_forgetRows l hlf dC dI x xe xn xso xro xga xlo xse xwa xst xou xdr 1 1 1 0 (-1) H.size ) (cwV 0 hts (kx_gV kq_98 kq_99 kq_100 kq_92 kq_101 rfl) rfl rfl rfl (by decide +kernel) ⟨Nat.le_of_ble_eq_true rfl, Nat.le_of_ble_eq_true rfl⟩) ⟨kx_blind, va_recv hKc hPc (ci := 5) (q0 := 0) rfl rfl, kx_give (ws := []) (tys := []) hPc hDc hKc hG hZ hS hFc⟩ rfl rfl hl.1 rfl (lv_room (Nat.le_of_ble_eq_true rfl)) dX5_entry_103 ⟨Nat.le_of_ble_eq_true rfl, Nat.le_of_ble_eq_true rfl⟩) hS (fun q _ h => hFc q h) hFc (fun u t H1 locs ht hvm hw_19 hB hz1 hk1 hS => ?_)
              obtain ⟨hP1, hK1, hD1⟩ := hB
              rw [ht] at hP1
              have hK1 := va_K.moved hvm.symm hK1
              try dsimp only at hw_19
              obtain ⟨hP, hD⟩ := va_join (wr := [(xe, .inl (cE, 80, .inr (.inr (.inr (.inr (va_up (fun _ => none) (0 : Int32).toNatClampNeg (some q_9))))))), (q_9, .inr (0, [.int lv, .int ab, .ref q1_12, .ref q2_13, .ref q3_14, .ref q4_15, .ref q5_16, .int (-1), .int (-1), .int 0, .int 0, .int 0]))]) (w1 := [(x, .inr (5, [.ref xe, .ref xn, .int 1, .int 1, .int 1, .ref xso, .ref xro, .int 0, .ref xga, .ref xlo, .int (-1), .ref xse, .ref xwa, .ref xst, .ref xou, .ref xdr]))]) hP hD [1] [0, 2] rfl rfl (by decide) (by decide) hk1 hFc hP1 hD1
              have hK := (hK.sub (tys' := [(cE, .object RX0)]) [0] rfl).app hK1
              generalize H1 = H at hP hS ⊢
              have hP : va_P (dC, dI) kxCl [(xe, .inl (cE, 80, .inr (.inr (.inr (.inr (va_up (fun _ => none) (0 : Int32).toNatClampNeg (some q_9))))))), (q_9, .inr (0, [.int lv, .int ab, .ref q1_12, .ref q2_13, .ref q3_14, .ref q4_15, .ref q5_16, .int (-1), .int (-1), .int 0, .int 0, .int 0])), (x, .inr (5, [.ref xe, .ref xn, .int 1, .int 1, .int 1, .ref xso, .ref xro, .int 0, .ref xga, .ref xlo, .int (-1), .ref xse, .ref xwa, .ref xst, .ref xou, .ref xdr]))] H := hP
              have hD : va_D A [(xe, .inl (cE, 80, .inr (.inr (.inr (.inr (va_up (fun _ => none) (0 : Int32).toNatClampNeg (some q_9))))))), (q_9, .inr (0, [.int lv, .int ab, .ref q1_12, .ref q2_13, .ref q3_14, .ref q4_15, .ref q5_16, .int (-1), .int (-1), .int 0, .int 0, .int 0])), (x, .inr (5, [.ref xe, .ref xn, .int 1, .int 1, .int 1, .ref xso, .ref xro, .int 0, .ref xga, .ref xlo, .int (-1), .ref xse, .ref xwa, .ref xst, .ref xou, .ref xdr]))] := hD
              have hK : va_K (dC, dI) kxCl [(cE, .object RX0)] s := hK
              refine lv_aload_n hx hb dX5_entry_106 rfl (lv_at hl 0 rfl) ?_
              refine va_get (D := (dC, dI)) (ci := 5) (v := .int 1) (C := RX5) (T := TX5) (N := 16) hx hb hts kt_X5 hown hK hP 2 rfl rfl 2 (by decide) (kx_word hG kq_59 rfl) (fun _ h9 => h9) rfl dX5_entry_107 ?_
              refine lv_iconst (v := 1) hx hb dX5_entry_110 (by decide) ?_
              refine lv_isub hx hb dX5_entry_111 ?_
              refine lv_topi (fun x_20 ex_20 => ?_)
              obtain rfl : x_20 = 0 := ex_20.trans (by decide)
              refine vx_ret ?_
              have hP9 := hP.sub (ws' := []) [] rfl
              have hD9 := hD.sub (ws' := []) [] (by decide) rfl
              have hK9 := hK.sub (tys' := []) [] rfl
              exact W.iret (v := 0) hx hb hr (fun t ht hW => ⟨⟨0, (), rfl, ⟨rfl, ek_e0 c_1 (kz_if hw_5 c_6)⟩, by rw [ht]; exact hP9, va_K.moved hW.alike hK9, hD9⟩, hS.F ht⟩) hS.2.2 dX5_entry_112
            · exact absurd c_8 (by decide)
        · skip
          exact kx_thr_IAE hx hb hlf hown hG hZ hS (hl.1.trans hml.symm) dX5_entry_39 dX5_entry_42 dX5_entry_43 dX5_entry_46 htab (Nat.le_of_ble_eq_true rfl) (Nat.le_of_ble_eq_true rfl) (Nat.le_of_ble_eq_true rfl) (Nat.le_of_ble_eq_true rfl) hlocks (fun t hvm hF => ⟨(), trivial, Or.inr ⟨rfl, ek_e2 c_1 (kz_ifn hw_5 c_6)⟩, hF⟩) hS.2.2 (by omega) (by omega)
  · skip
    refine lv_aload_n hx hb dX5_entry_5 rfl (lv_at hl 0 rfl) ?_
    refine lv_iload_n hx hb dX5_entry_6 rfl (lv_at hl 2 rfl) ?_
    have hPc := hP.sub (ws' := [(x, .inr (5, [.ref xe, .ref xn, .int 0, .int 1, .int 1, .ref xso, .ref xro, .int 0, .ref xga, .ref xlo, .int (-1), .ref xse, .ref xwa, .ref xst, .ref xou, .ref xdr]))]) [0] rfl
    have hDc := hD.sub (ws' := [(x, .inr (5, [.ref xe, .ref xn, .int 0, .int 1, .int 1, .ref xso, .ref xro, .int 0, .ref xga, .ref xlo, .int (-1), .ref xse, .ref xwa, .ref xst, .ref xou, .ref xdr]))]) [0] (by decide) rfl
    have hKc := hK.sub (tys' := []) [] rfl
    have hFc := va_free (wc := [(x, .inr (5, [.ref xe, .ref xn, .int 0, .int 1, .int 1, .ref xso, .ref xro, .int 0, .ref xga, .ref xlo, .int (-1), .ref xse, .ref xwa, .ref xst, .ref xou, .ref xdr]))]) hD hS hA [0] rfl
    refine va_calli (va_runV (As := [.int ab]) (rest := []) ⟨hx, hb, hml, hown, hts⟩ (c_isEntry l hlf dC dI x xe xn xso xro xga xlo xse xwa xst xou xdr ab s.heap.size ) (cwV 1 hts (kx_gV kq_89 kq_90 kq_91 kq_92 kq_93 rfl) rfl rfl rfl (by decide +kernel) ⟨Nat.le_of_ble_eq_true rfl, Nat.le_of_ble_eq_true rfl⟩) ⟨kx_blind, va_recv hKc hPc (ci := 5) (q0 := 0) rfl rfl, kx_give (ws := []) (tys := []) hPc hDc hKc hG hZ hS hFc⟩ rfl rfl hl.1 rfl (lv_room (Nat.le_of_ble_eq_true rfl)) dX5_entry_7 ⟨Nat.le_of_ble_eq_true rfl, Nat.le_of_ble_eq_true rfl⟩) hS (fun q _ h => hFc q h) hFc (fun r_21 u t H1 locs ht hvm hw_22 hB hz1 hk1 hS => ?_)
    obtain ⟨hP1, hK1, hD1⟩ := hB
    rw [ht] at hP1
    have hK1 := va_K.moved hvm.symm hK1
    try dsimp only at hw_22
    obtain ⟨hP, hD⟩ := va_join (wr := [(xe, .inl (cE, 80, .inr (.inr (.inr (.inr (fun _ => none))))))]) (w1 := [(x, .inr (5, [.ref xe, .ref xn, .int 0, .int 1, .int 1, .ref xso, .ref xro, .int 0, .ref xga, .ref xlo, .int (-1), .ref xse, .ref xwa, .ref xst, .ref xou, .ref xdr]))]) hP hD [0] [1] rfl rfl (by decide) (by decide) hk1 hFc hP1 hD1
    have hK := (hK.sub (tys' := [(cE, .object RX0)]) [0] rfl).app hK1
    generalize H1 = H at hP hS ⊢
    have hP : va_P (dC, dI) kxCl [(xe, .inl (cE, 80, .inr (.inr (.inr (.inr (fun _ => none)))))), (x, .inr (5, [.ref xe, .ref xn, .int 0, .int 1, .int 1, .ref xso, .ref xro, .int 0, .ref xga, .ref xlo, .int (-1), .ref xse, .ref xwa, .ref xst, .ref xou, .ref xdr]))] H := hP
    have hD : va_D A [(xe, .inl (cE, 80, .inr (.inr (.inr (.inr (fun _ => none)))))), (x, .inr (5, [.ref xe, .ref xn, .int 0, .int 1, .int 1, .ref xso, .ref xro, .int 0, .ref xga, .ref xlo, .int (-1), .ref xse, .ref xwa, .ref xst, .ref xou, .ref xdr]))] := hD
    have hK : va_K (dC, dI) kxCl [(cE, .object RX0)] s := hK
    subst hw_22
    refine lv_if_ne (tgt := 21) hx hb dX5_entry_10 (by decide) (fun c_23 => ?_) (fun c_23 => ?_)
    · exact absurd c_23 (by decide)
    · skip
      exact kx_thr_NSE hx hb hlf hown hG hZ hS (hl.1.trans hml.symm) dX5_entry_13 dX5_entry_16 dX5_entry_17 dX5_entry_20 htab (Nat.le_of_ble_eq_true rfl) (Nat.le_of_ble_eq_true rfl) (Nat.le_of_ble_eq_true rfl) (Nat.le_of_ble_eq_true rfl) hlocks (fun t hvm hF => ⟨(), trivial, Or.inl ⟨rfl, ek_e1 c_1⟩, hF⟩) hS.2.2 (by omega) (by omega)
set_option maxHeartbeats 4000000 in
set_option maxRecDepth 100000 in
theorem c_sign (l : Launch) (hlf : l.stackTraces = false) (dC : Nat → ClassId) (dI : Nat → Nat → Nat) (x : Nat) (xe : Nat) (xn : Nat) (xso : Nat) (xro : Nat) (xga : Nat) (xlo : Nat) (xse : Nat) (xwa : Nat) (xst : Nat) (xou : Nat) (xdr : Nat) (p0 : Int32) (p1 : Int32) (sz : Nat) : vx_Met l yX5_sign [.code yX5_sign cX5_sign 4 (some .int)] ({ frames := 8, cells := 1, slots := 6, locals := 121 }) (va_Pc [.ref x, .int p0, .int p1] (kx_Pre dC dI [(x, .inr (5, [.ref xe, .ref xn, .int 0, .int 1, .int 1, .ref xso, .ref xro, .int 0, .ref xga, .ref xlo, .int (-1), .ref xse, .ref xwa, .ref xst, .ref xou, .ref xdr]))] [] sz)) (va_Qi (fun (r : Int32) (u : Unit) => match u with | _ => False) (fun (u : Unit) (t : State) => match u with | _ => kx_At dC dI (va_A [(x, .inr (5, [.ref xe, .ref xn, .int 0, .int 1, .int 1, .ref xso, .ref xro, .int 0, .ref xga, .ref xlo, .int (-1), .ref xse, .ref xwa, .ref xst, .ref xou, .ref xdr]))] sz) [] [] t) (va_A [(x, .inr (5, [.ref xe, .ref xn, .int 0, .int 1, .int 1, .ref xso, .ref xro, .int 0, .ref xga, .ref xlo, .int (-1), .ref xse, .ref xwa, .ref xst, .ref xou, .ref xdr]))] sz)) (vx_X (fun _ : Unit => True) (fun E _ _ => E = "java/util/NoSuchElementException") (va_A [(x, .inr (5, [.ref xe, .ref xn, .int 0, .int 1, .int 1, .ref xso, .ref xro, .int 0, .ref xga, .ref xlo, .int (-1), .ref xse, .ref xwa, .ref xst, .ref xou, .ref xdr]))] sz)) 1 6 (va_A [(x, .inr (5, [.ref xe, .ref xn, .int 0, .int 1, .int 1, .ref xso, .ref xro, .int 0, .ref xga, .ref xlo, .int (-1), .ref xse, .ref xwa, .ref xst, .ref xou, .ref xdr]))] sz) := by
  refine vx_ofW (cc := cX5_sign) (maxL := 4) (ret := (some .int)) (by decide) rfl ?_
  intro p e s m args below meth c s₁ B hml htab hv
  obtain ⟨rfl, hsz, hP, hK, hD0, hG, hZ⟩ := hv
  have hx := B.exec
  have hb := B.bytes
  have hr := B.returns
  have hts := kx_hts (a := #[.ref x, .int p0, .int p1]) hG
  have hown : s.vm.findClass RX5 = some m.cls := findClass_of_methodNamed B.named
  have hlocks := B.notSynchronized
  subst hsz
  have hD := hD0.self (sz := s.heap.size)
  generalize hAe : va_A [(x, .inr (5, [.ref xe, .ref xn, .int 0, .int 1, .int 1, .ref xso, .ref xro, .int 0, .ref xga, .ref xlo, .int (-1), .ref xse, .ref xwa, .ref xst, .ref xou, .ref xdr]))] s.heap.size = A at hD hZ ⊢
  have hA : ∀ q : Nat, s.heap.size ≤ q → A q := fun q h => by rw [← hAe]; exact Or.inr h
  have hS : va_S A s.heap s.heap [] := va_S.rf
  have hP : va_P (dC, dI) kxCl [(x, .inr (5, [.ref xe, .ref xn, .int 0, .int 1, .int 1, .ref xso, .ref xro, .int 0, .ref xga, .ref xlo, .int (-1), .ref xse, .ref xwa, .ref xst, .ref xou, .ref xdr]))] s.heap := hP
  have hl := lv_entry ([.ref x, .int p0, .int p1]) (n := 4) (Nat.le_of_ble_eq_true rfl)
  rw [lg_entry_eq]
  generalize (lg_sl ([.ref x, .int p0, .int p1]) ++ List.replicate (4 - (lg_sl ([.ref x, .int p0, .int p1])).length) Slot.unset).toArray = ls at hl ⊢
  have hl : lv_has ls 4 [(0, .ref x), (1, .int p0), (2, .int p1)] := hl
  refine lv_aload_n hx hb dX5_sign_0 rfl (lv_at hl 0 rfl) ?_
  refine lv_iload_n hx hb dX5_sign_1 rfl (lv_at hl 1 rfl) ?_
  have hPc := hP.sub (ws' := [(x, .inr (5, [.ref xe, .ref xn, .int 0, .int 1, .int 1, .ref xso, .ref xro, .int 0, .ref xga, .ref xlo, .int (-1), .ref xse, .ref xwa, .ref xst, .ref xou, .ref xdr]))]) [0] rfl
  have hDc := hD.sub (ws' := [(x, .inr (5, [.ref xe, .ref xn, .int 0, .int 1, .int 1, .ref xso, .ref xro, .int 0, .ref xga, .ref xlo, .int (-1), .ref xse, .ref xwa, .ref xst, .ref xou, .ref xdr]))]) [0] (by decide) rfl
  have hKc := hK.sub (tys' := []) [] rfl
  have hFc := va_free (wc := [(x, .inr (5, [.ref xe, .ref xn, .int 0, .int 1, .int 1, .ref xso, .ref xro, .int 0, .ref xga, .ref xlo, .int (-1), .ref xse, .ref xwa, .ref xst, .ref xou, .ref xdr]))]) hD hS hA [0] rfl
  refine vx_callv (vx_runV (As := [.int p0]) (rest := []) ⟨hx, hb, hml, hown, hts⟩ (c_needEntry l hlf dC dI x xe xn xso xro xga xlo xse xwa xst xou xdr p0 s.heap.size ) (cwV 1 hts (kx_gV kq_102 kq_103 kq_104 kq_92 kq_105 rfl) rfl rfl rfl (by decide +kernel) ⟨Nat.le_of_ble_eq_true rfl, Nat.le_of_ble_eq_true rfl⟩) ⟨kx_blind, va_recv hKc hPc (ci := 5) (q0 := 0) rfl rfl, kx_give (ws := []) (tys := []) hPc hDc hKc hG hZ hS hFc⟩ rfl rfl hl.1 rfl (lv_room (Nat.le_of_ble_eq_true rfl)) dX5_sign_2 ⟨Nat.le_of_ble_eq_true rfl, Nat.le_of_ble_eq_true rfl⟩) hS (fun q _ h => hFc q h) hFc (fun q _ h => hFc q h) (fun E ce q9 u t H1 locs ht hvm _ hEx hz1 hk1 hS hcell hcv hcl => ?_) (fun u t H1 locs ht hvm hw_2 hB hz1 hk1 hS => ?_)
  · skip
    exact vx_out (fun x hx => (htab x hx).elim) hlocks hcell hcv hcl (fun t9 ht9 hvm9 => ⟨(), trivial, hEx, hS.F ht9⟩) hS.2.2 (by omega) (by omega)
  · skip
    exact hw_2.elim
set_option maxHeartbeats 4000000 in
set_option maxRecDepth 100000 in
theorem c_page (l : Launch) (hlf : l.stackTraces = false) (dC : Nat → ClassId) (dI : Nat → Nat → Nat) (x : Nat) (xe : Nat) (xn : Nat) (xso : Nat) (xro : Nat) (xga : Nat) (xlo : Nat) (xse : Nat) (xwa : Nat) (xst : Nat) (xou : Nat) (xdr : Nat) (p0 : Int32) (p1 : Int32) (p2 : Int32) (sz : Nat) : vx_Met l yX5_page [.code yX5_page cX5_page 6 (some .int)] ({ frames := 8, cells := 1, slots := 6, locals := 121 }) (va_Pc [.ref x, .int p0, .int p1, .int p2] (kx_Pre dC dI [(x, .inr (5, [.ref xe, .ref xn, .int 0, .int 1, .int 1, .ref xso, .ref xro, .int 0, .ref xga, .ref xlo, .int (-1), .ref xse, .ref xwa, .ref xst, .ref xou, .ref xdr]))] [] sz)) (va_Qi (fun (r : Int32) (u : Unit) => match u with | _ => False) (fun (u : Unit) (t : State) => match u with | _ => kx_At dC dI (va_A [(x, .inr (5, [.ref xe, .ref xn, .int 0, .int 1, .int 1, .ref xso, .ref xro, .int 0, .ref xga, .ref xlo, .int (-1), .ref xse, .ref xwa, .ref xst, .ref xou, .ref xdr]))] sz) [] [] t) (va_A [(x, .inr (5, [.ref xe, .ref xn, .int 0, .int 1, .int 1, .ref xso, .ref xro, .int 0, .ref xga, .ref xlo, .int (-1), .ref xse, .ref xwa, .ref xst, .ref xou, .ref xdr]))] sz)) (vx_X (fun _ : Unit => True) (fun E _ _ => E = "java/util/NoSuchElementException") (va_A [(x, .inr (5, [.ref xe, .ref xn, .int 0, .int 1, .int 1, .ref xso, .ref xro, .int 0, .ref xga, .ref xlo, .int (-1), .ref xse, .ref xwa, .ref xst, .ref xou, .ref xdr]))] sz)) 1 6 (va_A [(x, .inr (5, [.ref xe, .ref xn, .int 0, .int 1, .int 1, .ref xso, .ref xro, .int 0, .ref xga, .ref xlo, .int (-1), .ref xse, .ref xwa, .ref xst, .ref xou, .ref xdr]))] sz) := by
  refine vx_ofW (cc := cX5_page) (maxL := 6) (ret := (some .int)) (by decide) rfl ?_
  intro p e s m args below meth c s₁ B hml htab hv
  obtain ⟨rfl, hsz, hP, hK, hD0, hG, hZ⟩ := hv
  have hx := B.exec
  have hb := B.bytes
  have hr := B.returns
  have hts := kx_hts (a := #[.ref x, .int p0, .int p1, .int p2]) hG
  have hown : s.vm.findClass RX5 = some m.cls := findClass_of_methodNamed B.named
  have hlocks := B.notSynchronized
  subst hsz
  have hD := hD0.self (sz := s.heap.size)
  generalize hAe : va_A [(x, .inr (5, [.ref xe, .ref xn, .int 0, .int 1, .int 1, .ref xso, .ref xro, .int 0, .ref xga, .ref xlo, .int (-1), .ref xse, .ref xwa, .ref xst, .ref xou, .ref xdr]))] s.heap.size = A at hD hZ ⊢
  have hA : ∀ q : Nat, s.heap.size ≤ q → A q := fun q h => by rw [← hAe]; exact Or.inr h
  have hS : va_S A s.heap s.heap [] := va_S.rf
  have hP : va_P (dC, dI) kxCl [(x, .inr (5, [.ref xe, .ref xn, .int 0, .int 1, .int 1, .ref xso, .ref xro, .int 0, .ref xga, .ref xlo, .int (-1), .ref xse, .ref xwa, .ref xst, .ref xou, .ref xdr]))] s.heap := hP
  have hl := lv_entry ([.ref x, .int p0, .int p1, .int p2]) (n := 6) (Nat.le_of_ble_eq_true rfl)
  rw [lg_entry_eq]
  generalize (lg_sl ([.ref x, .int p0, .int p1, .int p2]) ++ List.replicate (6 - (lg_sl ([.ref x, .int p0, .int p1, .int p2])).length) Slot.unset).toArray = ls at hl ⊢
  have hl : lv_has ls 6 [(0, .ref x), (1, .int p0), (2, .int p1), (3, .int p2)] := hl
  refine lv_aload_n hx hb dX5_page_0 rfl (lv_at hl 0 rfl) ?_
  refine lv_iload_n hx hb dX5_page_1 rfl (lv_at hl 1 rfl) ?_
  have hPc := hP.sub (ws' := [(x, .inr (5, [.ref xe, .ref xn, .int 0, .int 1, .int 1, .ref xso, .ref xro, .int 0, .ref xga, .ref xlo, .int (-1), .ref xse, .ref xwa, .ref xst, .ref xou, .ref xdr]))]) [0] rfl
  have hDc := hD.sub (ws' := [(x, .inr (5, [.ref xe, .ref xn, .int 0, .int 1, .int 1, .ref xso, .ref xro, .int 0, .ref xga, .ref xlo, .int (-1), .ref xse, .ref xwa, .ref xst, .ref xou, .ref xdr]))]) [0] (by decide) rfl
  have hKc := hK.sub (tys' := []) [] rfl
  have hFc := va_free (wc := [(x, .inr (5, [.ref xe, .ref xn, .int 0, .int 1, .int 1, .ref xso, .ref xro, .int 0, .ref xga, .ref xlo, .int (-1), .ref xse, .ref xwa, .ref xst, .ref xou, .ref xdr]))]) hD hS hA [0] rfl
  refine vx_callv (vx_runV (As := [.int p0]) (rest := []) ⟨hx, hb, hml, hown, hts⟩ (c_needEntry l hlf dC dI x xe xn xso xro xga xlo xse xwa xst xou xdr p0 s.heap.size ) (cwV 1 hts (kx_gV kq_102 kq_103 kq_104 kq_92 kq_105 rfl) rfl rfl rfl (by decide +kernel) ⟨Nat.le_of_ble_eq_true rfl, Nat.le_of_ble_eq_true rfl⟩) ⟨kx_blind, va_recv hKc hPc (ci := 5) (q0 := 0) rfl rfl, kx_give (ws := []) (tys := []) hPc hDc hKc hG hZ hS hFc⟩ rfl rfl hl.1 rfl (lv_room (Nat.le_of_ble_eq_true rfl)) dX5_page_2 ⟨Nat.le_of_ble_eq_true rfl, Nat.le_of_ble_eq_true rfl⟩) hS (fun q _ h => hFc q h) hFc (fun q _ h => hFc q h) (fun E ce q9 u t H1 locs ht hvm _ hEx hz1 hk1 hS hcell hcv hcl => ?_) (fun u t H1 locs ht hvm hw_2 hB hz1 hk1 hS => ?_)
  · skip
    exact vx_out (fun x hx => (htab x hx).elim) hlocks hcell hcv hcl (fun t9 ht9 hvm9 => ⟨(), trivial, hEx, hS.F ht9⟩) hS.2.2 (by omega) (by omega)
  · skip
    exact hw_2.elim
set_option maxHeartbeats 4000000 in
set_option maxRecDepth 100000 in
theorem c_range (l : Launch) (hlf : l.stackTraces = false) (dC : Nat → ClassId) (dI : Nat → Nat → Nat) (x : Nat) (xe : Nat) (xn : Nat) (xso : Nat) (xro : Nat) (xga : Nat) (xlo : Nat) (xse : Nat) (xwa : Nat) (xst : Nat) (xou : Nat) (xdr : Nat) (p0 : Int32) (p1 : Int32) (p2 : Int32) (sz : Nat) : vx_Met l yX5_range [.code yX5_range cX5_range 7 (some .int)] ({ frames := 8, cells := 1, slots := 6, locals := 121 }) (va_Pc [.ref x, .int p0, .int p1, .int p2] (kx_Pre dC dI [(x, .inr (5, [.ref xe, .ref xn, .int 0, .int 1, .int 1, .ref xso, .ref xro, .int 0, .ref xga, .ref xlo, .int (-1), .ref xse, .ref xwa, .ref xst, .ref xou, .ref xdr]))] [] sz)) (va_Qi (fun (r : Int32) (u : Unit) => match u with | _ => False) (fun (u : Unit) (t : State) => match u with | _ => kx_At dC dI (va_A [(x, .inr (5, [.ref xe, .ref xn, .int 0, .int 1, .int 1, .ref xso, .ref xro, .int 0, .ref xga, .ref xlo, .int (-1), .ref xse, .ref xwa, .ref xst, .ref xou, .ref xdr]))] sz) [] [] t) (va_A [(x, .inr (5, [.ref xe, .ref xn, .int 0, .int 1, .int 1, .ref xso, .ref xro, .int 0, .ref xga, .ref xlo, .int (-1), .ref xse, .ref xwa, .ref xst, .ref xou, .ref xdr]))] sz)) (vx_X (fun _ : Unit => True) (fun E _ _ => E = "java/util/NoSuchElementException") (va_A [(x, .inr (5, [.ref xe, .ref xn, .int 0, .int 1, .int 1, .ref xso, .ref xro, .int 0, .ref xga, .ref xlo, .int (-1), .ref xse, .ref xwa, .ref xst, .ref xou, .ref xdr]))] sz)) 1 6 (va_A [(x, .inr (5, [.ref xe, .ref xn, .int 0, .int 1, .int 1, .ref xso, .ref xro, .int 0, .ref xga, .ref xlo, .int (-1), .ref xse, .ref xwa, .ref xst, .ref xou, .ref xdr]))] sz) := by
  refine vx_ofW (cc := cX5_range) (maxL := 7) (ret := (some .int)) (by decide) rfl ?_
  intro p e s m args below meth c s₁ B hml htab hv
  obtain ⟨rfl, hsz, hP, hK, hD0, hG, hZ⟩ := hv
  have hx := B.exec
  have hb := B.bytes
  have hr := B.returns
  have hts := kx_hts (a := #[.ref x, .int p0, .int p1, .int p2]) hG
  have hown : s.vm.findClass RX5 = some m.cls := findClass_of_methodNamed B.named
  have hlocks := B.notSynchronized
  subst hsz
  have hD := hD0.self (sz := s.heap.size)
  generalize hAe : va_A [(x, .inr (5, [.ref xe, .ref xn, .int 0, .int 1, .int 1, .ref xso, .ref xro, .int 0, .ref xga, .ref xlo, .int (-1), .ref xse, .ref xwa, .ref xst, .ref xou, .ref xdr]))] s.heap.size = A at hD hZ ⊢
  have hA : ∀ q : Nat, s.heap.size ≤ q → A q := fun q h => by rw [← hAe]; exact Or.inr h
  have hS : va_S A s.heap s.heap [] := va_S.rf
  have hP : va_P (dC, dI) kxCl [(x, .inr (5, [.ref xe, .ref xn, .int 0, .int 1, .int 1, .ref xso, .ref xro, .int 0, .ref xga, .ref xlo, .int (-1), .ref xse, .ref xwa, .ref xst, .ref xou, .ref xdr]))] s.heap := hP
  have hl := lv_entry ([.ref x, .int p0, .int p1, .int p2]) (n := 7) (Nat.le_of_ble_eq_true rfl)
  rw [lg_entry_eq]
  generalize (lg_sl ([.ref x, .int p0, .int p1, .int p2]) ++ List.replicate (7 - (lg_sl ([.ref x, .int p0, .int p1, .int p2])).length) Slot.unset).toArray = ls at hl ⊢
  have hl : lv_has ls 7 [(0, .ref x), (1, .int p0), (2, .int p1), (3, .int p2)] := hl
  refine lv_aload_n hx hb dX5_range_0 rfl (lv_at hl 0 rfl) ?_
  refine lv_iload_n hx hb dX5_range_1 rfl (lv_at hl 1 rfl) ?_
  have hPc := hP.sub (ws' := [(x, .inr (5, [.ref xe, .ref xn, .int 0, .int 1, .int 1, .ref xso, .ref xro, .int 0, .ref xga, .ref xlo, .int (-1), .ref xse, .ref xwa, .ref xst, .ref xou, .ref xdr]))]) [0] rfl
  have hDc := hD.sub (ws' := [(x, .inr (5, [.ref xe, .ref xn, .int 0, .int 1, .int 1, .ref xso, .ref xro, .int 0, .ref xga, .ref xlo, .int (-1), .ref xse, .ref xwa, .ref xst, .ref xou, .ref xdr]))]) [0] (by decide) rfl
  have hKc := hK.sub (tys' := []) [] rfl
  have hFc := va_free (wc := [(x, .inr (5, [.ref xe, .ref xn, .int 0, .int 1, .int 1, .ref xso, .ref xro, .int 0, .ref xga, .ref xlo, .int (-1), .ref xse, .ref xwa, .ref xst, .ref xou, .ref xdr]))]) hD hS hA [0] rfl
  refine vx_callv (vx_runV (As := [.int p0]) (rest := []) ⟨hx, hb, hml, hown, hts⟩ (c_needEntry l hlf dC dI x xe xn xso xro xga xlo xse xwa xst xou xdr p0 s.heap.size ) (cwV 1 hts (kx_gV kq_102 kq_103 kq_104 kq_92 kq_105 rfl) rfl rfl rfl (by decide +kernel) ⟨Nat.le_of_ble_eq_true rfl, Nat.le_of_ble_eq_true rfl⟩) ⟨kx_blind, va_recv hKc hPc (ci := 5) (q0 := 0) rfl rfl, kx_give (ws := []) (tys := []) hPc hDc hKc hG hZ hS hFc⟩ rfl rfl hl.1 rfl (lv_room (Nat.le_of_ble_eq_true rfl)) dX5_range_2 ⟨Nat.le_of_ble_eq_true rfl, Nat.le_of_ble_eq_true rfl⟩) hS (fun q _ h => hFc q h) hFc (fun q _ h => hFc q h) (fun E ce q9 u t H1 locs ht hvm _ hEx hz1 hk1 hS hcell hcv hcl => ?_) (fun u t H1 locs ht hvm hw_2 hB hz1 hk1 hS => ?_)
  · skip
    exact vx_out (fun x hx => (htab x hx).elim) hlocks hcell hcv hcl (fun t9 ht9 hvm9 => ⟨(), trivial, hEx, hS.F ht9⟩) hS.2.2 (by omega) (by omega)
  · skip
    exact hw_2.elim
set_option maxHeartbeats 4000000 in
set_option maxRecDepth 100000 in
theorem c_see (l : Launch) (hlf : l.stackTraces = false) (dC : Nat → ClassId) (dI : Nat → Nat → Nat) (x : Nat) (xe : Nat) (xn : Nat) (xso : Nat) (xro : Nat) (xga : Nat) (xlo : Nat) (xse : Nat) (xwa : Nat) (xst : Nat) (xou : Nat) (xdr : Nat) (p0 : Int32) (p1 : Int32) (sz : Nat) : vx_Met l yX5_see [.code yX5_see cX5_see 4 (some .int)] ({ frames := 8, cells := 1, slots := 6, locals := 121 }) (va_Pc [.ref x, .int p0, .int p1] (kx_Pre dC dI [(x, .inr (5, [.ref xe, .ref xn, .int 0, .int 1, .int 1, .ref xso, .ref xro, .int 0, .ref xga, .ref xlo, .int (-1), .ref xse, .ref xwa, .ref xst, .ref xou, .ref xdr]))] [] sz)) (va_Qi (fun (r : Int32) (u : Unit) => match u with | _ => False) (fun (u : Unit) (t : State) => match u with | _ => kx_At dC dI (va_A [(x, .inr (5, [.ref xe, .ref xn, .int 0, .int 1, .int 1, .ref xso, .ref xro, .int 0, .ref xga, .ref xlo, .int (-1), .ref xse, .ref xwa, .ref xst, .ref xou, .ref xdr]))] sz) [] [] t) (va_A [(x, .inr (5, [.ref xe, .ref xn, .int 0, .int 1, .int 1, .ref xso, .ref xro, .int 0, .ref xga, .ref xlo, .int (-1), .ref xse, .ref xwa, .ref xst, .ref xou, .ref xdr]))] sz)) (vx_X (fun _ : Unit => True) (fun E _ _ => E = "java/util/NoSuchElementException") (va_A [(x, .inr (5, [.ref xe, .ref xn, .int 0, .int 1, .int 1, .ref xso, .ref xro, .int 0, .ref xga, .ref xlo, .int (-1), .ref xse, .ref xwa, .ref xst, .ref xou, .ref xdr]))] sz)) 1 6 (va_A [(x, .inr (5, [.ref xe, .ref xn, .int 0, .int 1, .int 1, .ref xso, .ref xro, .int 0, .ref xga, .ref xlo, .int (-1), .ref xse, .ref xwa, .ref xst, .ref xou, .ref xdr]))] sz) := by
  refine vx_ofW (cc := cX5_see) (maxL := 4) (ret := (some .int)) (by decide) rfl ?_
  intro p e s m args below meth c s₁ B hml htab hv
  obtain ⟨rfl, hsz, hP, hK, hD0, hG, hZ⟩ := hv
  have hx := B.exec
  have hb := B.bytes
  have hr := B.returns
  have hts := kx_hts (a := #[.ref x, .int p0, .int p1]) hG
  have hown : s.vm.findClass RX5 = some m.cls := findClass_of_methodNamed B.named
  have hlocks := B.notSynchronized
  subst hsz
  have hD := hD0.self (sz := s.heap.size)
  generalize hAe : va_A [(x, .inr (5, [.ref xe, .ref xn, .int 0, .int 1, .int 1, .ref xso, .ref xro, .int 0, .ref xga, .ref xlo, .int (-1), .ref xse, .ref xwa, .ref xst, .ref xou, .ref xdr]))] s.heap.size = A at hD hZ ⊢
  have hA : ∀ q : Nat, s.heap.size ≤ q → A q := fun q h => by rw [← hAe]; exact Or.inr h
  have hS : va_S A s.heap s.heap [] := va_S.rf
  have hP : va_P (dC, dI) kxCl [(x, .inr (5, [.ref xe, .ref xn, .int 0, .int 1, .int 1, .ref xso, .ref xro, .int 0, .ref xga, .ref xlo, .int (-1), .ref xse, .ref xwa, .ref xst, .ref xou, .ref xdr]))] s.heap := hP
  have hl := lv_entry ([.ref x, .int p0, .int p1]) (n := 4) (Nat.le_of_ble_eq_true rfl)
  rw [lg_entry_eq]
  generalize (lg_sl ([.ref x, .int p0, .int p1]) ++ List.replicate (4 - (lg_sl ([.ref x, .int p0, .int p1])).length) Slot.unset).toArray = ls at hl ⊢
  have hl : lv_has ls 4 [(0, .ref x), (1, .int p0), (2, .int p1)] := hl
  refine lv_aload_n hx hb dX5_see_0 rfl (lv_at hl 0 rfl) ?_
  refine lv_iload_n hx hb dX5_see_1 rfl (lv_at hl 1 rfl) ?_
  have hPc := hP.sub (ws' := [(x, .inr (5, [.ref xe, .ref xn, .int 0, .int 1, .int 1, .ref xso, .ref xro, .int 0, .ref xga, .ref xlo, .int (-1), .ref xse, .ref xwa, .ref xst, .ref xou, .ref xdr]))]) [0] rfl
  have hDc := hD.sub (ws' := [(x, .inr (5, [.ref xe, .ref xn, .int 0, .int 1, .int 1, .ref xso, .ref xro, .int 0, .ref xga, .ref xlo, .int (-1), .ref xse, .ref xwa, .ref xst, .ref xou, .ref xdr]))]) [0] (by decide) rfl
  have hKc := hK.sub (tys' := []) [] rfl
  have hFc := va_free (wc := [(x, .inr (5, [.ref xe, .ref xn, .int 0, .int 1, .int 1, .ref xso, .ref xro, .int 0, .ref xga, .ref xlo, .int (-1), .ref xse, .ref xwa, .ref xst, .ref xou, .ref xdr]))]) hD hS hA [0] rfl
  refine vx_callv (vx_runV (As := [.int p0]) (rest := []) ⟨hx, hb, hml, hown, hts⟩ (c_needEntry l hlf dC dI x xe xn xso xro xga xlo xse xwa xst xou xdr p0 s.heap.size ) (cwV 1 hts (kx_gV kq_102 kq_103 kq_104 kq_92 kq_105 rfl) rfl rfl rfl (by decide +kernel) ⟨Nat.le_of_ble_eq_true rfl, Nat.le_of_ble_eq_true rfl⟩) ⟨kx_blind, va_recv hKc hPc (ci := 5) (q0 := 0) rfl rfl, kx_give (ws := []) (tys := []) hPc hDc hKc hG hZ hS hFc⟩ rfl rfl hl.1 rfl (lv_room (Nat.le_of_ble_eq_true rfl)) dX5_see_2 ⟨Nat.le_of_ble_eq_true rfl, Nat.le_of_ble_eq_true rfl⟩) hS (fun q _ h => hFc q h) hFc (fun q _ h => hFc q h) (fun E ce q9 u t H1 locs ht hvm _ hEx hz1 hk1 hS hcell hcv hcl => ?_) (fun u t H1 locs ht hvm hw_2 hB hz1 hk1 hS => ?_)
  · skip
    exact vx_out (fun x hx => (htab x hx).elim) hlocks hcell hcv hcl (fun t9 ht9 hvm9 => ⟨(), trivial, hEx, hS.F ht9⟩) hS.2.2 (by omega) (by omega)
  · skip
    exact hw_2.elim
set_option maxHeartbeats 4000000 in
set_option maxRecDepth 100000 in
theorem c_compare (l : Launch) (hlf : l.stackTraces = false) (dC : Nat → ClassId) (dI : Nat → Nat → Nat) (x : Nat) (xe : Nat) (xn : Nat) (xso : Nat) (xro : Nat) (xga : Nat) (xlo : Nat) (xse : Nat) (xwa : Nat) (xst : Nat) (xou : Nat) (xdr : Nat) (p0 : Int32) (p1 : Int32) (sz : Nat) : vx_Met l yX5_compare [.code yX5_compare cX5_compare 3 (some .int)] ({ frames := 8, cells := 1, slots := 6, locals := 121 }) (va_Pc [.ref x, .int p0, .int p1] (kx_Pre dC dI [(x, .inr (5, [.ref xe, .ref xn, .int 0, .int 1, .int 1, .ref xso, .ref xro, .int 0, .ref xga, .ref xlo, .int (-1), .ref xse, .ref xwa, .ref xst, .ref xou, .ref xdr]))] [] sz)) (va_Qi (fun (r : Int32) (u : Unit) => match u with | _ => False) (fun (u : Unit) (t : State) => match u with | _ => kx_At dC dI (va_A [(x, .inr (5, [.ref xe, .ref xn, .int 0, .int 1, .int 1, .ref xso, .ref xro, .int 0, .ref xga, .ref xlo, .int (-1), .ref xse, .ref xwa, .ref xst, .ref xou, .ref xdr]))] sz) [] [] t) (va_A [(x, .inr (5, [.ref xe, .ref xn, .int 0, .int 1, .int 1, .ref xso, .ref xro, .int 0, .ref xga, .ref xlo, .int (-1), .ref xse, .ref xwa, .ref xst, .ref xou, .ref xdr]))] sz)) (vx_X (fun _ : Unit => True) (fun E _ _ => E = "java/util/NoSuchElementException") (va_A [(x, .inr (5, [.ref xe, .ref xn, .int 0, .int 1, .int 1, .ref xso, .ref xro, .int 0, .ref xga, .ref xlo, .int (-1), .ref xse, .ref xwa, .ref xst, .ref xou, .ref xdr]))] sz)) 1 6 (va_A [(x, .inr (5, [.ref xe, .ref xn, .int 0, .int 1, .int 1, .ref xso, .ref xro, .int 0, .ref xga, .ref xlo, .int (-1), .ref xse, .ref xwa, .ref xst, .ref xou, .ref xdr]))] sz) := by
  refine vx_ofW (cc := cX5_compare) (maxL := 3) (ret := (some .int)) (by decide) rfl ?_
  intro p e s m args below meth c s₁ B hml htab hv
  obtain ⟨rfl, hsz, hP, hK, hD0, hG, hZ⟩ := hv
  have hx := B.exec
  have hb := B.bytes
  have hr := B.returns
  have hts := kx_hts (a := #[.ref x, .int p0, .int p1]) hG
  have hown : s.vm.findClass RX5 = some m.cls := findClass_of_methodNamed B.named
  have hlocks := B.notSynchronized
  subst hsz
  have hD := hD0.self (sz := s.heap.size)
  generalize hAe : va_A [(x, .inr (5, [.ref xe, .ref xn, .int 0, .int 1, .int 1, .ref xso, .ref xro, .int 0, .ref xga, .ref xlo, .int (-1), .ref xse, .ref xwa, .ref xst, .ref xou, .ref xdr]))] s.heap.size = A at hD hZ ⊢
  have hA : ∀ q : Nat, s.heap.size ≤ q → A q := fun q h => by rw [← hAe]; exact Or.inr h
  have hS : va_S A s.heap s.heap [] := va_S.rf
  have hP : va_P (dC, dI) kxCl [(x, .inr (5, [.ref xe, .ref xn, .int 0, .int 1, .int 1, .ref xso, .ref xro, .int 0, .ref xga, .ref xlo, .int (-1), .ref xse, .ref xwa, .ref xst, .ref xou, .ref xdr]))] s.heap := hP
  have hl := lv_entry ([.ref x, .int p0, .int p1]) (n := 3) (Nat.le_of_ble_eq_true rfl)
  rw [lg_entry_eq]
  generalize (lg_sl ([.ref x, .int p0, .int p1]) ++ List.replicate (3 - (lg_sl ([.ref x, .int p0, .int p1])).length) Slot.unset).toArray = ls at hl ⊢
  have hl : lv_has ls 3 [(0, .ref x), (1, .int p0), (2, .int p1)] := hl
  refine lv_aload_n hx hb dX5_compare_0 rfl (lv_at hl 0 rfl) ?_
  refine lv_iload_n hx hb dX5_compare_1 rfl (lv_at hl 1 rfl) ?_
  have hPc := hP.sub (ws' := [(x, .inr (5, [.ref xe, .ref xn, .int 0, .int 1, .int 1, .ref xso, .ref xro, .int 0, .ref xga, .ref xlo, .int (-1), .ref xse, .ref xwa, .ref xst, .ref xou, .ref xdr]))]) [0] rfl
  have hDc := hD.sub (ws' := [(x, .inr (5, [.ref xe, .ref xn, .int 0, .int 1, .int 1, .ref xso, .ref xro, .int 0, .ref xga, .ref xlo, .int (-1), .ref xse, .ref xwa, .ref xst, .ref xou, .ref xdr]))]) [0] (by decide) rfl
  have hKc := hK.sub (tys' := []) [] rfl
  have hFc := va_free (wc := [(x, .inr (5, [.ref xe, .ref xn, .int 0, .int 1, .int 1, .ref xso, .ref xro, .int 0, .ref xga, .ref xlo, .int (-1), .ref xse, .ref xwa, .ref xst, .ref xou, .ref xdr]))]) hD hS hA [0] rfl
  refine vx_callv (vx_runV (As := [.int p0]) (rest := []) ⟨hx, hb, hml, hown, hts⟩ (c_needEntry l hlf dC dI x xe xn xso xro xga xlo xse xwa xst xou xdr p0 s.heap.size ) (cwV 1 hts (kx_gV kq_102 kq_103 kq_104 kq_92 kq_105 rfl) rfl rfl rfl (by decide +kernel) ⟨Nat.le_of_ble_eq_true rfl, Nat.le_of_ble_eq_true rfl⟩) ⟨kx_blind, va_recv hKc hPc (ci := 5) (q0 := 0) rfl rfl, kx_give (ws := []) (tys := []) hPc hDc hKc hG hZ hS hFc⟩ rfl rfl hl.1 rfl (lv_room (Nat.le_of_ble_eq_true rfl)) dX5_compare_2 ⟨Nat.le_of_ble_eq_true rfl, Nat.le_of_ble_eq_true rfl⟩) hS (fun q _ h => hFc q h) hFc (fun q _ h => hFc q h) (fun E ce q9 u t H1 locs ht hvm _ hEx hz1 hk1 hS hcell hcv hcl => ?_) (fun u t H1 locs ht hvm hw_2 hB hz1 hk1 hS => ?_)
  · skip
    exact vx_out (fun x hx => (htab x hx).elim) hlocks hcell hcv hcl (fun t9 ht9 hvm9 => ⟨(), trivial, hEx, hS.F ht9⟩) hS.2.2 (by omega) (by omega)
  · skip
    exact hw_2.elim
set_option maxHeartbeats 4000000 in
set_option maxRecDepth 100000 in
theorem c_makeKeys (l : Launch) (hlf : l.stackTraces = false) (dC : Nat → ClassId) (dI : Nat → Nat → Nat) (x : Nat) (xe : Nat) (xn : Nat) (xso : Nat) (xro : Nat) (xga : Nat) (xlo : Nat) (xse : Nat) (xwa : Nat) (xst : Nat) (xou : Nat) (xdr : Nat) (dig : Int32) (wor : Int32) (kn : Int32) (lof : Int32) (sz : Nat) : Met l yX5_makeKeys [.code yX5_makeKeys cX5_makeKeys 2 none] ({ frames := 0, cells := 0, slots := 0, locals := 0 }) (va_Pc [.ref x] (kx_Pre dC dI [(x, .inr (5, [.ref xe, .ref xn, .int 0, .int dig, .int wor, .ref xso, .ref xro, .int kn, .ref xga, .ref xlo, .int lof, .ref xse, .ref xwa, .ref xst, .ref xou, .ref xdr]))] [] sz)) (va_Qv (fun u : Unit => match u with | _ => True) (fun (u : Unit) (t : State) => match u with | _ => kx_At dC dI (va_A [(x, .inr (5, [.ref xe, .ref xn, .int 0, .int dig, .int wor, .ref xso, .ref xro, .int kn, .ref xga, .ref xlo, .int lof, .ref xse, .ref xwa, .ref xst, .ref xou, .ref xdr]))] sz) [(x, .inr (5, [.ref xe, .ref xn, .int 0, .int dig, .int wor, .ref xso, .ref xro, .int kn, .ref xga, .ref xlo, .int lof, .ref xse, .ref xwa, .ref xst, .ref xou, .ref xdr]))] [] t) (va_A [(x, .inr (5, [.ref xe, .ref xn, .int 0, .int dig, .int wor, .ref xso, .ref xro, .int kn, .ref xga, .ref xlo, .int lof, .ref xse, .ref xwa, .ref xst, .ref xou, .ref xdr]))] sz)) 0 0 (va_A [(x, .inr (5, [.ref xe, .ref xn, .int 0, .int dig, .int wor, .ref xso, .ref xro, .int kn, .ref xga, .ref xlo, .int lof, .ref xse, .ref xwa, .ref xst, .ref xou, .ref xdr]))] sz) := by
  refine Met.ofW (cc := cX5_makeKeys) (maxL := 2) (ret := none) (by decide) rfl ?_
  intro p e s m args below meth c s₁ B hml hv
  obtain ⟨rfl, hsz, hP, hK, hD0, hG, hZ⟩ := hv
  have hx := B.exec
  have hb := B.bytes
  have hr := B.returns
  have hts := kx_hts (a := #[.ref x]) hG
  have hown : s.vm.findClass RX5 = some m.cls := findClass_of_methodNamed B.named
  have hlocks := B.notSynchronized
  subst hsz
  have hD := hD0.self (sz := s.heap.size)
  generalize hAe : va_A [(x, .inr (5, [.ref xe, .ref xn, .int 0, .int dig, .int wor, .ref xso, .ref xro, .int kn, .ref xga, .ref xlo, .int lof, .ref xse, .ref xwa, .ref xst, .ref xou, .ref xdr]))] s.heap.size = A at hD hZ ⊢
  have hA : ∀ q : Nat, s.heap.size ≤ q → A q := fun q h => by rw [← hAe]; exact Or.inr h
  have hS : va_S A s.heap s.heap [] := va_S.rf
  have hP : va_P (dC, dI) kxCl [(x, .inr (5, [.ref xe, .ref xn, .int 0, .int dig, .int wor, .ref xso, .ref xro, .int kn, .ref xga, .ref xlo, .int lof, .ref xse, .ref xwa, .ref xst, .ref xou, .ref xdr]))] s.heap := hP
  have hl := lv_entry ([.ref x]) (n := 2) (Nat.le_of_ble_eq_true rfl)
  rw [lg_entry_eq]
  generalize (lg_sl ([.ref x]) ++ List.replicate (2 - (lg_sl ([.ref x])).length) Slot.unset).toArray = ls at hl ⊢
  have hl : lv_has ls 2 [(0, .ref x)] := hl
  refine lv_iconst (v := 0) hx hb dX5_makeKeys_0 (by decide) ?_
  refine lv_istore_n (lv' := [(1, .int 0), (0, .ref x)]) hx hb dX5_makeKeys_1 rfl hl (by decide) rfl (fun ls hl => ?_)
  refine lv_iload_n hx hb dX5_makeKeys_2 rfl (lv_at hl 0 rfl) ?_
  refine lv_aload_n hx hb dX5_makeKeys_3 rfl (lv_at hl 1 rfl) ?_
  refine va_get (D := (dC, dI)) (ci := 5) (v := .int 0) (C := RX5) (T := TX5) (N := 16) hx hb hts kt_X5 hown hK hP 0 rfl rfl 2 (by decide) (kx_word hG kq_59 rfl) (fun _ h9 => h9) rfl dX5_makeKeys_4 ?_
  refine lv_icmp_ge (tgt := 32) hx hb dX5_makeKeys_7 (by decide) (fun c_1 => ?_) (fun c_1 => ?_)
  · skip
    have hP9 := hP.sub (ws' := [(x, .inr (5, [.ref xe, .ref xn, .int 0, .int dig, .int wor, .ref xso, .ref xro, .int kn, .ref xga, .ref xlo, .int lof, .ref xse, .ref xwa, .ref xst, .ref xou, .ref xdr]))]) [0] rfl
    have hD9 := hD.sub (ws' := [(x, .inr (5, [.ref xe, .ref xn, .int 0, .int dig, .int wor, .ref xso, .ref xro, .int kn, .ref xga, .ref xlo, .int lof, .ref xse, .ref xwa, .ref xst, .ref xou, .ref xdr]))]) [0] (by decide) rfl
    have hK9 := hK.sub (tys' := []) [] rfl
    exact W.vret hx hb hr (fun t ht hW => ⟨⟨(), rfl, trivial, by rw [ht]; exact hP9, va_K.moved hW.alike hK9, hD9⟩, hS.F ht⟩) hS.2.2 dX5_makeKeys_32
  · exact absurd c_1 (by decide)
set_option maxHeartbeats 4000000 in
set_option maxRecDepth 100000 in
theorem c_rule (l : Launch) (hlf : l.stackTraces = false) (dC : Nat → ClassId) (dI : Nat → Nat → Nat) (x : Nat) (xe : Nat) (xn : Nat) (xso : Nat) (xro : Nat) (xga : Nat) (xlo : Nat) (xse : Nat) (xwa : Nat) (xst : Nat) (xou : Nat) (xdr : Nat) (w : Int32) (on : Int32) (sz : Nat) (hbz : narrow .boolean (.int on) = .int on) (hbf : fits .boolean (.int on) = true) : vx_Met l yX5_rule [.code yX5_rule cX5_rule 4 (some .int)] ({ frames := 7, cells := 1, slots := 6, locals := 100 }) (va_Pc [.ref x, .int w, .int on] (kx_Pre dC dI [(x, .inr (5, [.ref xe, .ref xn, .int 0, .int 1, .int 1, .ref xso, .ref xro, .int 0, .ref xga, .ref xlo, .int (-1), .ref xse, .ref xwa, .ref xst, .ref xou, .ref xdr]))] [] sz)) (va_Qi (fun (r : Int32) (u : Unit) => match u with | _ => r = 1 ∧ ek_rule w = 0) (fun (u : Unit) (t : State) => match u with | _ => kx_At dC dI (va_A [(x, .inr (5, [.ref xe, .ref xn, .int 0, .int 1, .int 1, .ref xso, .ref xro, .int 0, .ref xga, .ref xlo, .int (-1), .ref xse, .ref xwa, .ref xst, .ref xou, .ref xdr]))] sz) [] [] t) (va_A [(x, .inr (5, [.ref xe, .ref xn, .int 0, .int 1, .int 1, .ref xso, .ref xro, .int 0, .ref xga, .ref xlo, .int (-1), .ref xse, .ref xwa, .ref xst, .ref xou, .ref xdr]))] sz)) (vx_X (fun _ : Unit => True) (fun E _ _ => E = "java/lang/IllegalArgumentException" ∧ ek_rule w = 1) (va_A [(x, .inr (5, [.ref xe, .ref xn, .int 0, .int 1, .int 1, .ref xso, .ref xro, .int 0, .ref xga, .ref xlo, .int (-1), .ref xse, .ref xwa, .ref xst, .ref xou, .ref xdr]))] sz)) 1 6 (va_A [(x, .inr (5, [.ref xe, .ref xn, .int 0, .int 1, .int 1, .ref xso, .ref xro, .int 0, .ref xga, .ref xlo, .int (-1), .ref xse, .ref xwa, .ref xst, .ref xou, .ref xdr]))] sz) := by
  refine vx_ofW (cc := cX5_rule) (maxL := 4) (ret := (some .int)) (by decide) rfl ?_
  intro p e s m args below meth c s₁ B hml htab hv
  obtain ⟨rfl, hsz, hP, hK, hD0, hG, hZ⟩ := hv
  have hx := B.exec
  have hb := B.bytes
  have hr := B.returns
  have hts := kx_hts (a := #[.ref x, .int w, .int on]) hG
  have hown : s.vm.findClass RX5 = some m.cls := findClass_of_methodNamed B.named
  have hlocks := B.notSynchronized
  subst hsz
  have hD := hD0.self (sz := s.heap.size)
  generalize hAe : va_A [(x, .inr (5, [.ref xe, .ref xn, .int 0, .int 1, .int 1, .ref xso, .ref xro, .int 0, .ref xga, .ref xlo, .int (-1), .ref xse, .ref xwa, .ref xst, .ref xou, .ref xdr]))] s.heap.size = A at hD hZ ⊢
  have hA : ∀ q : Nat, s.heap.size ≤ q → A q := fun q h => by rw [← hAe]; exact Or.inr h
  have hS : va_S A s.heap s.heap [] := va_S.rf
  have hP : va_P (dC, dI) kxCl [(x, .inr (5, [.ref xe, .ref xn, .int 0, .int 1, .int 1, .ref xso, .ref xro, .int 0, .ref xga, .ref xlo, .int (-1), .ref xse, .ref xwa, .ref xst, .ref xou, .ref xdr]))] s.heap := hP
  have hl := lv_entry ([.ref x, .int w, .int on]) (n := 4) (Nat.le_of_ble_eq_true rfl)
  rw [lg_entry_eq]
  generalize (lg_sl ([.ref x, .int w, .int on]) ++ List.replicate (4 - (lg_sl ([.ref x, .int w, .int on])).length) Slot.unset).toArray = ls at hl ⊢
  have hl : lv_has ls 4 [(0, .ref x), (1, .int w), (2, .int on)] := hl
  refine lv_iload_n hx hb dX5_rule_0 rfl (lv_at hl 1 rfl) ?_
  refine lv_if_lt (tgt := 9) hx hb dX5_rule_1 (by decide) (fun c_1 => ?_) (fun c_1 => ?_)
  · skip
    exact kx_thr_IAE hx hb hlf hown hG hZ hS (hl.1.trans hml.symm) dX5_rule_9 dX5_rule_12 dX5_rule_13 dX5_rule_16 htab (Nat.le_of_ble_eq_true rfl) (Nat.le_of_ble_eq_true rfl) (Nat.le_of_ble_eq_true rfl) (Nat.le_of_ble_eq_true rfl) hlocks (fun t hvm hF => ⟨(), trivial, ⟨rfl, ek_r1 (kz_lt c_1) (kz_m1 c_1)⟩, hF⟩) hS.2.2 (by omega) (by omega)
  · skip
    refine lv_iload_n hx hb dX5_rule_4 rfl (lv_at hl 1 rfl) ?_
    refine lv_iconst (v := 1) hx hb dX5_rule_5 (by decide) ?_
    refine lv_icmp_le (tgt := 17) hx hb dX5_rule_6 (by decide) (fun c_2 => ?_) (fun c_2 => ?_)
    · skip
      refine lv_iload_n hx hb dX5_rule_17 rfl (lv_at hl 1 rfl) ?_
      refine lv_if_ne (tgt := 28) hx hb dX5_rule_18 (by decide) (fun c_3 => ?_) (fun c_3 => ?_)
      · skip
        refine lv_aload_n hx hb dX5_rule_28 rfl (lv_at hl 0 rfl) ?_
        refine va_get (D := (dC, dI)) (ci := 5) (v := .int 1) (C := RX5) (T := TX5) (N := 16) hx hb hts kt_X5 hown hK hP 0 rfl rfl 4 (by decide) (kx_word hG kq_61 rfl) (fun _ h9 => h9) rfl dX5_rule_29 ?_
        refine lv_istore_n (lv' := [(3, .int 1), (0, .ref x), (1, .int w), (2, .int on)]) hx hb dX5_rule_32 rfl hl (by decide) rfl (fun ls hl => ?_)
        refine lv_iload_n hx hb dX5_rule_33 rfl (lv_at hl 2 rfl) ?_
        refine lv_if_ne (tgt := 45) hx hb dX5_rule_34 (by decide) (fun c_4 => ?_) (fun c_4 => ?_)
        · skip
          refine lv_aload_n hx hb dX5_rule_45 rfl (lv_at hl 1 rfl) ?_
          refine lv_iload_n hx hb dX5_rule_46 rfl (lv_at hl 3 rfl) ?_
          refine va_put (D := (dC, dI)) (ci := 5) (v := .int on) (ty := .boolean) (C := RX5) (T := TX5) (N := 16) hx hb hts kt_X5 tyX5 tyX5_ok nmX5 hown hK hP hD hS 0 rfl rfl 4 (by decide) (kx_word hG kq_61 rfl) (fun _ h9 => h9) rfl (by decide +kernel) hbz hbf (Nat.le_of_ble_eq_true rfl) dX5_rule_47 (fun H locs hP hD hS => ?_)
          have hP : va_P (dC, dI) kxCl [(x, .inr (5, [.ref xe, .ref xn, .int 0, .int 1, .int on, .ref xso, .ref xro, .int 0, .ref xga, .ref xlo, .int (-1), .ref xse, .ref xwa, .ref xst, .ref xou, .ref xdr]))] H := hP
          have hD : va_D A [(x, .inr (5, [.ref xe, .ref xn, .int 0, .int 1, .int on, .ref xso, .ref xro, .int 0, .ref xga, .ref xlo, .int (-1), .ref xse, .ref xwa, .ref xst, .ref xou, .ref xdr]))] := hD
          refine lv_iload_n hx hb dX5_rule_50 rfl (lv_at hl 0 rfl) ?_
          refine lv_iload_n hx hb dX5_rule_51 rfl (lv_at hl 3 rfl) ?_
          refine lv_icmp_eq (tgt := 63) hx hb dX5_rule_52 (by decide) (fun c_5 => ?_) (fun c_5 => ?_)
          · skip
            refine lv_iload_n hx hb dX5_rule_63 rfl (lv_at hl 0 rfl) ?_
            refine lv_if_eq (tgt := 71) hx hb dX5_rule_64 (by decide) (fun c_6 => ?_) (fun c_6 => ?_)
            · exact absurd c_6 (by decide)
            · skip
              refine lv_iconst (v := 1) hx hb dX5_rule_67 (by decide) ?_
              refine lv_goto (tgt := 72) hx hb dX5_rule_68 (by decide) ?_
              refine vx_ret ?_
              have hP9 := hP.sub (ws' := []) [] rfl
              have hD9 := hD.sub (ws' := []) [] (by decide) rfl
              have hK9 := hK.sub (tys' := []) [] rfl
              refine W.widen (k := 1) (n := 6) (by omega) (by omega) ?_
              exact W.iret (v := 1) hx hb hr (fun t ht hW => ⟨⟨1, (), rfl, ⟨rfl, ek_r0b (kz_01 c_1 c_2 c_3)⟩, by rw [ht]; exact hP9, va_K.moved hW.alike hK9, hD9⟩, hS.F ht⟩) hS.2.2 dX5_rule_72
          · skip
            refine lv_aload_n hx hb dX5_rule_55 rfl (lv_at hl 1 rfl) ?_
            have hPc := hP.sub (ws' := [(x, .inr (5, [.ref xe, .ref xn, .int 0, .int 1, .int on, .ref xso, .ref xro, .int 0, .ref xga, .ref xlo, .int (-1), .ref xse, .ref xwa, .ref xst, .ref xou, .ref xdr]))]) [0] rfl
            have hDc := hD.sub (ws' := [(x, .inr (5, [.ref xe, .ref xn, .int 0, .int 1, .int on, .ref xso, .ref xro, .int 0, .ref xga, .ref xlo, .int (-1), .ref xse, .ref xwa, .ref xst, .ref xou, .ref xdr]))]) [0] (by decide) rfl
            have hKc := hK.sub (tys' := []) [] rfl
            have hFc := va_free (wc := [(x, .inr (5, [.ref xe, .ref xn, .int 0, .int 1, .int on, .ref xso, .ref xro, .int 0, .ref xga, .ref xlo, .int (-1), .ref xse, .ref xwa, .ref xst, .ref xou, .ref xdr]))]) hD hS hA [0] rfl
            refine va_callv (va_runV (As := []) (rest := []) ⟨hx, hb, hml, hown, hts⟩ (c_makeKeys l hlf dC dI x xe xn xso xro xga xlo xse xwa xst xou xdr 1 on 0 (-1) H.size ) (cwV 0 hts (kx_gV kq_106 kq_107 kq_108 kq_92 kq_109 rfl) rfl rfl rfl (by decide +kernel) ⟨Nat.le_of_ble_eq_true rfl, Nat.le_of_ble_eq_true rfl⟩) ⟨kx_blind, va_recv hKc hPc (ci := 5) (q0 := 0) rfl rfl, kx_give (ws := []) (tys := []) hPc hDc hKc hG hZ hS hFc⟩ rfl rfl hl.1 rfl (lv_room (Nat.le_of_ble_eq_true rfl)) dX5_rule_56 ⟨Nat.le_of_ble_eq_true rfl, Nat.le_of_ble_eq_true rfl⟩) hS (fun q _ h => hFc q h) hFc (fun u t H1 locs ht hvm hw_8 hB hz1 hk1 hS => ?_)
            obtain ⟨hP1, hK1, hD1⟩ := hB
            rw [ht] at hP1
            have hK1 := va_K.moved hvm.symm hK1
            try dsimp only at hw_8
            obtain ⟨hP, hD⟩ := va_join (wr := []) (w1 := [(x, .inr (5, [.ref xe, .ref xn, .int 0, .int 1, .int on, .ref xso, .ref xro, .int 0, .ref xga, .ref xlo, .int (-1), .ref xse, .ref xwa, .ref xst, .ref xou, .ref xdr]))]) hP hD [0] [] rfl rfl (by decide) (by decide) hk1 hFc hP1 hD1
            have hK := (hK.sub (tys' := []) [] rfl).app hK1
            generalize H1 = H at hP hS ⊢
            have hP : va_P (dC, dI) kxCl [(x, .inr (5, [.ref xe, .ref xn, .int 0, .int 1, .int on, .ref xso, .ref xro, .int 0, .ref xga, .ref xlo, .int (-1), .ref xse, .ref xwa, .ref xst, .ref xou, .ref xdr]))] H := hP
            have hD : va_D A [(x, .inr (5, [.ref xe, .ref xn, .int 0, .int 1, .int on, .ref xso, .ref xro, .int 0, .ref xga, .ref xlo, .int (-1), .ref xse, .ref xwa, .ref xst, .ref xou, .ref xdr]))] := hD
            have hK : va_K (dC, dI) kxCl [] s := hK
            refine lv_aload_n hx hb dX5_rule_59 rfl (lv_at hl 1 rfl) ?_
            have hPc := hP.sub (ws' := [(x, .inr (5, [.ref xe, .ref xn, .int 0, .int 1, .int on, .ref xso, .ref xro, .int 0, .ref xga, .ref xlo, .int (-1), .ref xse, .ref xwa, .ref xst, .ref xou, .ref xdr]))]) [0] rfl
            have hDc := hD.sub (ws' := [(x, .inr (5, [.ref xe, .ref xn, .int 0, .int 1, .int on, .ref xso, .ref xro, .int 0, .ref xga, .ref xlo, .int (-1), .ref xse, .ref xwa, .ref xst, .ref xou, .ref xdr]))]) [0] (by decide) rfl
            have hKc := hK.sub (tys' := []) [] rfl
            have hFc := va_free (wc := [(x, .inr (5, [.ref xe, .ref xn, .int 0, .int 1, .int on, .ref xso, .ref xro, .int 0, .ref xga, .ref xlo, .int (-1), .ref xse, .ref xwa, .ref xst, .ref xou, .ref xdr]))]) hD hS hA [0] rfl
            refine va_callv (va_runV (As := []) (rest := []) ⟨hx, hb, hml, hown, hts⟩ (c_forgetRows l hlf dC dI x xe xn xso xro xga xlo xse xwa xst xou xdr 0 1 on 0 (-1) H.size ) (cwV 0 hts (kx_gV kq_98 kq_99 kq_100 kq_92 kq_101 rfl) rfl rfl rfl (by decide +kernel) ⟨Nat.le_of_ble_eq_true rfl, Nat.le_of_ble_eq_true rfl⟩) ⟨kx_blind, va_recv hKc hPc (ci := 5) (q0 := 0) rfl rfl, kx_give (ws := []) (tys := []) hPc hDc hKc hG hZ hS hFc⟩ rfl rfl hl.1 rfl (lv_room (Nat.le_of_ble_eq_true rfl)) dX5_rule_60 ⟨Nat.le_of_ble_eq_true rfl, Nat.le_of_ble_eq_true rfl⟩) hS (fun q _ h => hFc q h) hFc (fun u t H1 locs ht hvm hw_10 hB hz1 hk1 hS => ?_)
            obtain ⟨hP1, hK1, hD1⟩ := hB
            rw [ht] at hP1
            have hK1 := va_K.moved hvm.symm hK1
            try dsimp only at hw_10
            obtain ⟨hP, hD⟩ := va_join (wr := []) (w1 := [(x, .inr (5, [.ref xe, .ref xn, .int 0, .int 1, .int on, .ref xso, .ref xro, .int 0, .ref xga, .ref xlo, .int (-1), .ref xse, .ref xwa, .ref xst, .ref xou, .ref xdr]))]) hP hD [0] [] rfl rfl (by decide) (by decide) hk1 hFc hP1 hD1
            have hK := (hK.sub (tys' := []) [] rfl).app hK1
            generalize H1 = H at hP hS ⊢
            have hP : va_P (dC, dI) kxCl [(x, .inr (5, [.ref xe, .ref xn, .int 0, .int 1, .int on, .ref xso, .ref xro, .int 0, .ref xga, .ref xlo, .int (-1), .ref xse, .ref xwa, .ref xst, .ref xou, .ref xdr]))] H := hP
            have hD : va_D A [(x, .inr (5, [.ref xe, .ref xn, .int 0, .int 1, .int on, .ref xso, .ref xro, .int 0, .ref xga, .ref xlo, .int (-1), .ref xse, .ref xwa, .ref xst, .ref xou, .ref xdr]))] := hD
            have hK : va_K (dC, dI) kxCl [] s := hK
            refine lv_iload_n hx hb dX5_rule_63 rfl (lv_at hl 0 rfl) ?_
            refine lv_if_eq (tgt := 71) hx hb dX5_rule_64 (by decide) (fun c_11 => ?_) (fun c_11 => ?_)
            · exact absurd c_11 (by decide)
            · skip
              refine lv_iconst (v := 1) hx hb dX5_rule_67 (by decide) ?_
              refine lv_goto (tgt := 72) hx hb dX5_rule_68 (by decide) ?_
              refine vx_ret ?_
              have hP9 := hP.sub (ws' := []) [] rfl
              have hD9 := hD.sub (ws' := []) [] (by decide) rfl
              have hK9 := hK.sub (tys' := []) [] rfl
              refine W.widen (k := 1) (n := 6) (by omega) (by omega) ?_
              exact W.iret (v := 1) hx hb hr (fun t ht hW => ⟨⟨1, (), rfl, ⟨rfl, ek_r0b (kz_01 c_1 c_2 c_3)⟩, by rw [ht]; exact hP9, va_K.moved hW.alike hK9, hD9⟩, hS.F ht⟩) hS.2.2 dX5_rule_72
        · exact absurd c_4 c_3
      · skip
        refine lv_aload_n hx hb dX5_rule_21 rfl (lv_at hl 0 rfl) ?_
        refine va_get (D := (dC, dI)) (ci := 5) (v := .int 1) (C := RX5) (T := TX5) (N := 16) hx hb hts kt_X5 hown hK hP 0 rfl rfl 3 (by decide) (kx_word hG kq_60 rfl) (fun _ h9 => h9) rfl dX5_rule_22 ?_
        refine lv_goto (tgt := 32) hx hb dX5_rule_25 (by decide) ?_
        refine lv_istore_n (lv' := [(3, .int 1), (0, .ref x), (1, .int w), (2, .int on)]) hx hb dX5_rule_32 rfl hl (by decide) rfl (fun ls hl => ?_)
        refine lv_iload_n hx hb dX5_rule_33 rfl (lv_at hl 2 rfl) ?_
        refine lv_if_ne (tgt := 45) hx hb dX5_rule_34 (by decide) (fun c_12 => ?_) (fun c_12 => ?_)
        · exact absurd c_3 c_12
        · skip
          refine lv_aload_n hx hb dX5_rule_37 rfl (lv_at hl 1 rfl) ?_
          refine lv_iload_n hx hb dX5_rule_38 rfl (lv_at hl 3 rfl) ?_
          refine va_put (D := (dC, dI)) (ci := 5) (v := .int on) (ty := .boolean) (C := RX5) (T := TX5) (N := 16) hx hb hts kt_X5 tyX5 tyX5_ok nmX5 hown hK hP hD hS 0 rfl rfl 3 (by decide) (kx_word hG kq_60 rfl) (fun _ h9 => h9) rfl (by decide +kernel) hbz hbf (Nat.le_of_ble_eq_true rfl) dX5_rule_39 (fun H locs hP hD hS => ?_)
          have hP : va_P (dC, dI) kxCl [(x, .inr (5, [.ref xe, .ref xn, .int 0, .int on, .int 1, .ref xso, .ref xro, .int 0, .ref xga, .ref xlo, .int (-1), .ref xse, .ref xwa, .ref xst, .ref xou, .ref xdr]))] H := hP
          have hD : va_D A [(x, .inr (5, [.ref xe, .ref xn, .int 0, .int on, .int 1, .ref xso, .ref xro, .int 0, .ref xga, .ref xlo, .int (-1), .ref xse, .ref xwa, .ref xst, .ref xou, .ref xdr]))] := hD
          refine lv_goto (tgt := 50) hx hb dX5_rule_42 (by decide) ?_
          refine lv_iload_n hx hb dX5_rule_50 rfl (lv_at hl 0 rfl) ?_
          refine lv_iload_n hx hb dX5_rule_51 rfl (lv_at hl 3 rfl) ?_
          refine lv_icmp_eq (tgt := 63) hx hb dX5_rule_52 (by decide) (fun c_13 => ?_) (fun c_13 => ?_)
          · skip
            refine lv_iload_n hx hb dX5_rule_63 rfl (lv_at hl 0 rfl) ?_
            refine lv_if_eq (tgt := 71) hx hb dX5_rule_64 (by decide) (fun c_14 => ?_) (fun c_14 => ?_)
            · exact absurd c_14 (by decide)
            · skip
              refine lv_iconst (v := 1) hx hb dX5_rule_67 (by decide) ?_
              refine lv_goto (tgt := 72) hx hb dX5_rule_68 (by decide) ?_
              refine vx_ret ?_
              have hP9 := hP.sub (ws' := []) [] rfl
              have hD9 := hD.sub (ws' := []) [] (by decide) rfl
              have hK9 := hK.sub (tys' := []) [] rfl
              refine W.widen (k := 1) (n := 6) (by omega) (by omega) ?_
              exact W.iret (v := 1) hx hb hr (fun t ht hW => ⟨⟨1, (), rfl, ⟨rfl, ek_r0 c_3⟩, by rw [ht]; exact hP9, va_K.moved hW.alike hK9, hD9⟩, hS.F ht⟩) hS.2.2 dX5_rule_72
          · skip
            refine lv_aload_n hx hb dX5_rule_55 rfl (lv_at hl 1 rfl) ?_
            have hPc := hP.sub (ws' := [(x, .inr (5, [.ref xe, .ref xn, .int 0, .int on, .int 1, .ref xso, .ref xro, .int 0, .ref xga, .ref xlo, .int (-1), .ref xse, .ref xwa, .ref xst, .ref xou, .ref xdr]))]) [0] rfl
            have hDc := hD.sub (ws' := [(x, .inr (5, [.ref xe, .ref xn, .int 0, .int on, .int 1, .ref xso, .ref xro, .int 0, .ref xga, .ref xlo, .int (-1), .ref xse, .ref xwa, .ref xst, .ref xou, .ref xdr]))]) [0] (by decide) rfl
            have hKc := hK.sub (tys' := []) [] rfl
            have hFc := va_free (wc := [(x, .inr (5, [.ref xe, .ref xn, .int 0, .int on, .int 1, .ref xso, .ref xro, .int 0, .ref xga, .ref xlo, .int (-1), .ref xse, .ref xwa, .ref xst, .ref xou, .ref xdr]))]) hD hS hA [0] rfl
            refine va_callv (va_runV (As := []) (rest := []) ⟨hx, hb, hml, hown, hts⟩ (c_makeKeys l hlf dC dI x xe xn xso xro xga xlo xse xwa xst xou xdr on 1 0 (-1) H.size ) (cwV 0 hts (kx_gV kq_106 kq_107 kq_108 kq_92 kq_109 rfl) rfl rfl rfl (by decide +kernel) ⟨Nat.le_of_ble_eq_true rfl, Nat.le_of_ble_eq_true rfl⟩) ⟨kx_blind, va_recv hKc hPc (ci := 5) (q0 := 0) rfl rfl, kx_give (ws := []) (tys := []) hPc hDc hKc hG hZ hS hFc⟩ rfl rfl hl.1 rfl (lv_room (Nat.le_of_ble_eq_true rfl)) dX5_rule_56 ⟨Nat.le_of_ble_eq_true rfl, Nat.le_of_ble_eq_true rfl⟩) hS (fun q _ h => hFc q h) hFc (fun u t H1 locs ht hvm hw_16 hB hz1 hk1 hS => ?_)
            obtain ⟨hP1, hK1, hD1⟩ := hB
            rw [ht] at hP1
            have hK1 := va_K.moved hvm.symm hK1
            try dsimp only at hw_16
            obtain ⟨hP, hD⟩ := va_join (wr := []) (w1 := [(x, .inr (5, [.ref xe, .ref xn, .int 0, .int on, .int 1, .ref xso, .ref xro, .int 0, .ref xga, .ref xlo, .int (-1), .ref xse, .ref xwa, .ref xst, .ref xou, .ref xdr]))]) hP hD [0] [] rfl rfl (by decide) (by decide) hk1 hFc hP1 hD1
            have hK := (hK.sub (tys' := []) [] rfl).app hK1
            generalize H1 = H at hP hS ⊢
            have hP : va_P (dC, dI) kxCl [(x, .inr (5, [.ref xe, .ref xn, .int 0, .int on, .int 1, .ref xso, .ref xro, .int 0, .ref xga, .ref xlo, .int (-1), .ref xse, .ref xwa, .ref xst, .ref xou, .ref xdr]))] H := hP
            have hD : va_D A [(x, .inr (5, [.ref xe, .ref xn, .int 0, .int on, .int 1, .ref xso, .ref xro, .int 0, .ref xga, .ref xlo, .int (-1), .ref xse, .ref xwa, .ref xst, .ref xou, .ref xdr]))] := hD
            have hK : va_K (dC, dI) kxCl [] s := hK
            refine lv_aload_n hx hb dX5_rule_59 rfl (lv_at hl 1 rfl) ?_
            have hPc := hP.sub (ws' := [(x, .inr (5, [.ref xe, .ref xn, .int 0, .int on, .int 1, .ref xso, .ref xro, .int 0, .ref xga, .ref xlo, .int (-1), .ref xse, .ref xwa, .ref xst, .ref xou, .ref xdr]))]) [0] rfl
            have hDc := hD.sub (ws' := [(x, .inr (5, [.ref xe, .ref xn, .int 0, .int on, .int 1, .ref xso, .ref xro, .int 0, .ref xga, .ref xlo, .int (-1), .ref xse, .ref xwa, .ref xst, .ref xou, .ref xdr]))]) [0] (by decide) rfl
            have hKc := hK.sub (tys' := []) [] rfl
            have hFc := va_free (wc := [(x, .inr (5, [.ref xe, .ref xn, .int 0, .int on, .int 1, .ref xso, .ref xro, .int 0, .ref xga, .ref xlo, .int (-1), .ref xse, .ref xwa, .ref xst, .ref xou, .ref xdr]))]) hD hS hA [0] rfl
            refine va_callv (va_runV (As := []) (rest := []) ⟨hx, hb, hml, hown, hts⟩ (c_forgetRows l hlf dC dI x xe xn xso xro xga xlo xse xwa xst xou xdr 0 on 1 0 (-1) H.size ) (cwV 0 hts (kx_gV kq_98 kq_99 kq_100 kq_92 kq_101 rfl) rfl rfl rfl (by decide +kernel) ⟨Nat.le_of_ble_eq_true rfl, Nat.le_of_ble_eq_true rfl⟩) ⟨kx_blind, va_recv hKc hPc (ci := 5) (q0 := 0) rfl rfl, kx_give (ws := []) (tys := []) hPc hDc hKc hG hZ hS hFc⟩ rfl rfl hl.1 rfl (lv_room (Nat.le_of_ble_eq_true rfl)) dX5_rule_60 ⟨Nat.le_of_ble_eq_true rfl, Nat.le_of_ble_eq_true rfl⟩) hS (fun q _ h => hFc q h) hFc (fun u t H1 locs ht hvm hw_18 hB hz1 hk1 hS => ?_)
            obtain ⟨hP1, hK1, hD1⟩ := hB
            rw [ht] at hP1
            have hK1 := va_K.moved hvm.symm hK1
            try dsimp only at hw_18
            obtain ⟨hP, hD⟩ := va_join (wr := []) (w1 := [(x, .inr (5, [.ref xe, .ref xn, .int 0, .int on, .int 1, .ref xso, .ref xro, .int 0, .ref xga, .ref xlo, .int (-1), .ref xse, .ref xwa, .ref xst, .ref xou, .ref xdr]))]) hP hD [0] [] rfl rfl (by decide) (by decide) hk1 hFc hP1 hD1
            have hK := (hK.sub (tys' := []) [] rfl).app hK1
            generalize H1 = H at hP hS ⊢
            have hP : va_P (dC, dI) kxCl [(x, .inr (5, [.ref xe, .ref xn, .int 0, .int on, .int 1, .ref xso, .ref xro, .int 0, .ref xga, .ref xlo, .int (-1), .ref xse, .ref xwa, .ref xst, .ref xou, .ref xdr]))] H := hP
            have hD : va_D A [(x, .inr (5, [.ref xe, .ref xn, .int 0, .int on, .int 1, .ref xso, .ref xro, .int 0, .ref xga, .ref xlo, .int (-1), .ref xse, .ref xwa, .ref xst, .ref xou, .ref xdr]))] := hD
            have hK : va_K (dC, dI) kxCl [] s := hK
            refine lv_iload_n hx hb dX5_rule_63 rfl (lv_at hl 0 rfl) ?_
            refine lv_if_eq (tgt := 71) hx hb dX5_rule_64 (by decide) (fun c_19 => ?_) (fun c_19 => ?_)
            · exact absurd c_19 (by decide)
            · skip
              refine lv_iconst (v := 1) hx hb dX5_rule_67 (by decide) ?_
              refine lv_goto (tgt := 72) hx hb dX5_rule_68 (by decide) ?_
              refine vx_ret ?_
              have hP9 := hP.sub (ws' := []) [] rfl
              have hD9 := hD.sub (ws' := []) [] (by decide) rfl
              have hK9 := hK.sub (tys' := []) [] rfl
              refine W.widen (k := 1) (n := 6) (by omega) (by omega) ?_
              exact W.iret (v := 1) hx hb hr (fun t ht hW => ⟨⟨1, (), rfl, ⟨rfl, ek_r0 c_3⟩, by rw [ht]; exact hP9, va_K.moved hW.alike hK9, hD9⟩, hS.F ht⟩) hS.2.2 dX5_rule_72
    · skip
      exact kx_thr_IAE hx hb hlf hown hG hZ hS (hl.1.trans hml.symm) dX5_rule_9 dX5_rule_12 dX5_rule_13 dX5_rule_16 htab (Nat.le_of_ble_eq_true rfl) (Nat.le_of_ble_eq_true rfl) (Nat.le_of_ble_eq_true rfl) (Nat.le_of_ble_eq_true rfl) hlocks (fun t hvm hF => ⟨(), trivial, ⟨rfl, ek_r1 (kz_g1 c_2).1 (kz_g1 c_2).2⟩, hF⟩) hS.2.2 (by omega) (by omega)
set_option maxHeartbeats 4000000 in
set_option maxRecDepth 100000 in
theorem c_sortFirsts (l : Launch) (hlf : l.stackTraces = false) (dC : Nat → ClassId) (dI : Nat → Nat → Nat) (x : Nat) (xe : Nat) (xn : Nat) (xso : Nat) (xro : Nat) (xga : Nat) (xlo : Nat) (xse : Nat) (xwa : Nat) (xst : Nat) (xou : Nat) (xdr : Nat) (xr1 : Nat) (sz : Nat) : Met l yX5_sortFirsts [.code yX5_sortFirsts cX5_sortFirsts 3 none] ({ frames := 1, cells := 0, slots := 0, locals := 20 }) (va_Pc [.ref x] (kx_Pre dC dI [(x, .inr (5, [.ref xe, .ref xn, .int 0, .int 1, .int 1, .ref xso, .ref xro, .int 0, .ref xga, .ref xlo, .int (-1), .ref xse, .ref xwa, .ref xst, .ref xou, .ref xdr])), (xso, .inr (1, [.int 80, .ref xr1, .int 0]))] [] sz)) (va_Qv (fun u : Unit => match u with | _ => True) (fun (u : Unit) (t : State) => match u with | _ => kx_At dC dI (va_A [(x, .inr (5, [.ref xe, .ref xn, .int 0, .int 1, .int 1, .ref xso, .ref xro, .int 0, .ref xga, .ref xlo, .int (-1), .ref xse, .ref xwa, .ref xst, .ref xou, .ref xdr])), (xso, .inr (1, [.int 80, .ref xr1, .int 0]))] sz) [(x, .inr (5, [.ref xe, .ref xn, .int 0, .int 1, .int 1, .ref xso, .ref xro, .int 0, .ref xga, .ref xlo, .int (-1), .ref xse, .ref xwa, .ref xst, .ref xou, .ref xdr])), (xso, .inr (1, [.int 80, .ref xr1, .int 0]))] [] t) (va_A [(x, .inr (5, [.ref xe, .ref xn, .int 0, .int 1, .int 1, .ref xso, .ref xro, .int 0, .ref xga, .ref xlo, .int (-1), .ref xse, .ref xwa, .ref xst, .ref xou, .ref xdr])), (xso, .inr (1, [.int 80, .ref xr1, .int 0]))] sz)) 0 0 (va_A [(x, .inr (5, [.ref xe, .ref xn, .int 0, .int 1, .int 1, .ref xso, .ref xro, .int 0, .ref xga, .ref xlo, .int (-1), .ref xse, .ref xwa, .ref xst, .ref xou, .ref xdr])), (xso, .inr (1, [.int 80, .ref xr1, .int 0]))] sz) := by
  refine Met.ofW (cc := cX5_sortFirsts) (maxL := 3) (ret := none) (by decide) rfl ?_
  intro p e s m args below meth c s₁ B hml hv
  obtain ⟨rfl, hsz, hP, hK, hD0, hG, hZ⟩ := hv
  have hx := B.exec
  have hb := B.bytes
  have hr := B.returns
  have hts := kx_hts (a := #[.ref x]) hG
  have hown : s.vm.findClass RX5 = some m.cls := findClass_of_methodNamed B.named
  have hlocks := B.notSynchronized
  subst hsz
  have hD := hD0.self (sz := s.heap.size)
  generalize hAe : va_A [(x, .inr (5, [.ref xe, .ref xn, .int 0, .int 1, .int 1, .ref xso, .ref xro, .int 0, .ref xga, .ref xlo, .int (-1), .ref xse, .ref xwa, .ref xst, .ref xou, .ref xdr])), (xso, .inr (1, [.int 80, .ref xr1, .int 0]))] s.heap.size = A at hD hZ ⊢
  have hA : ∀ q : Nat, s.heap.size ≤ q → A q := fun q h => by rw [← hAe]; exact Or.inr h
  have hS : va_S A s.heap s.heap [] := va_S.rf
  have hP : va_P (dC, dI) kxCl [(x, .inr (5, [.ref xe, .ref xn, .int 0, .int 1, .int 1, .ref xso, .ref xro, .int 0, .ref xga, .ref xlo, .int (-1), .ref xse, .ref xwa, .ref xst, .ref xou, .ref xdr])), (xso, .inr (1, [.int 80, .ref xr1, .int 0]))] s.heap := hP
  have hl := lv_entry ([.ref x]) (n := 3) (Nat.le_of_ble_eq_true rfl)
  rw [lg_entry_eq]
  generalize (lg_sl ([.ref x]) ++ List.replicate (3 - (lg_sl ([.ref x])).length) Slot.unset).toArray = ls at hl ⊢
  have hl : lv_has ls 3 [(0, .ref x)] := hl
  refine lv_aload_n hx hb dX5_sortFirsts_0 rfl (lv_at hl 0 rfl) ?_
  refine va_get (D := (dC, dI)) (ci := 5) (v := .ref xso) (C := RX5) (T := TX5) (N := 16) hx hb hts kt_X5 hown hK hP 0 rfl rfl 5 (by decide) (kx_word hG kq_64 rfl) (fun _ h9 => h9) rfl dX5_sortFirsts_1 ?_
  have hPc := hP.sub (ws' := [(xso, .inr (1, [.int 80, .ref xr1, .int 0]))]) [1] rfl
  have hDc := hD.sub (ws' := [(xso, .inr (1, [.int 80, .ref xr1, .int 0]))]) [1] (by decide) rfl
  have hKc := hK.sub (tys' := []) [] rfl
  have hFc := va_free (wc := [(xso, .inr (1, [.int 80, .ref xr1, .int 0]))]) hD hS hA [1] rfl
  refine va_callv (va_runV (As := []) (rest := []) ⟨hx, hb, hml, hown, hts⟩ (c_Ints_clear l hlf dC dI xso 80 xr1 0 s.heap.size ) (cwV 0 hts (kx_gV kq_110 kq_111 kq_112 kq_21 kq_113 rfl) rfl rfl rfl (by decide +kernel) ⟨Nat.le_of_ble_eq_true rfl, Nat.le_of_ble_eq_true rfl⟩) ⟨kx_blind, va_recv hKc hPc (ci := 1) (q0 := 0) rfl rfl, kx_give (ws := []) (tys := []) hPc hDc hKc hG hZ hS hFc⟩ rfl rfl hl.1 rfl (lv_room (Nat.le_of_ble_eq_true rfl)) dX5_sortFirsts_4 ⟨Nat.le_of_ble_eq_true rfl, Nat.le_of_ble_eq_true rfl⟩) hS (fun q _ h => hFc q h) hFc (fun u t H1 locs ht hvm hw_2 hB hz1 hk1 hS => ?_)
  obtain ⟨hP1, hK1, hD1⟩ := hB
  rw [ht] at hP1
  have hK1 := va_K.moved hvm.symm hK1
  try dsimp only at hw_2
  obtain ⟨hP, hD⟩ := va_join (wr := [(x, .inr (5, [.ref xe, .ref xn, .int 0, .int 1, .int 1, .ref xso, .ref xro, .int 0, .ref xga, .ref xlo, .int (-1), .ref xse, .ref xwa, .ref xst, .ref xou, .ref xdr]))]) (w1 := [(xso, .inr (1, [.int 80, .ref xr1, .int 0]))]) hP hD [1] [0] rfl rfl (by decide) (by decide) hk1 hFc hP1 hD1
  have hK := (hK.sub (tys' := []) [] rfl).app hK1
  generalize H1 = H at hP hS ⊢
  have hP : va_P (dC, dI) kxCl [(x, .inr (5, [.ref xe, .ref xn, .int 0, .int 1, .int 1, .ref xso, .ref xro, .int 0, .ref xga, .ref xlo, .int (-1), .ref xse, .ref xwa, .ref xst, .ref xou, .ref xdr])), (xso, .inr (1, [.int 80, .ref xr1, .int 0]))] H := hP
  have hD : va_D A [(x, .inr (5, [.ref xe, .ref xn, .int 0, .int 1, .int 1, .ref xso, .ref xro, .int 0, .ref xga, .ref xlo, .int (-1), .ref xse, .ref xwa, .ref xst, .ref xou, .ref xdr])), (xso, .inr (1, [.int 80, .ref xr1, .int 0]))] := hD
  have hK : va_K (dC, dI) kxCl [] s := hK
  refine lv_iconst (v := 0) hx hb dX5_sortFirsts_7 (by decide) ?_
  refine lv_istore_n (lv' := [(1, .int 0), (0, .ref x)]) hx hb dX5_sortFirsts_8 rfl hl (by decide) rfl (fun ls hl => ?_)
  refine lv_iload_n hx hb dX5_sortFirsts_9 rfl (lv_at hl 0 rfl) ?_
  refine lv_aload_n hx hb dX5_sortFirsts_10 rfl (lv_at hl 1 rfl) ?_
  refine va_get (D := (dC, dI)) (ci := 5) (v := .int 0) (C := RX5) (T := TX5) (N := 16) hx hb hts kt_X5 hown hK hP 0 rfl rfl 2 (by decide) (kx_word hG kq_59 rfl) (fun _ h9 => h9) rfl dX5_sortFirsts_11 ?_
  refine lv_icmp_ge (tgt := 99) hx hb dX5_sortFirsts_14 (by decide) (fun c_3 => ?_) (fun c_3 => ?_)
  · skip
    have hP9 := hP.sub (ws' := [(x, .inr (5, [.ref xe, .ref xn, .int 0, .int 1, .int 1, .ref xso, .ref xro, .int 0, .ref xga, .ref xlo, .int (-1), .ref xse, .ref xwa, .ref xst, .ref xou, .ref xdr])), (xso, .inr (1, [.int 80, .ref xr1, .int 0]))]) [0, 1] rfl
    have hD9 := hD.sub (ws' := [(x, .inr (5, [.ref xe, .ref xn, .int 0, .int 1, .int 1, .ref xso, .ref xro, .int 0, .ref xga, .ref xlo, .int (-1), .ref xse, .ref xwa, .ref xst, .ref xou, .ref xdr])), (xso, .inr (1, [.int 80, .ref xr1, .int 0]))]) [0, 1] (by decide) rfl
    have hK9 := hK.sub (tys' := []) [] rfl
    exact W.vret hx hb hr (fun t ht hW => ⟨⟨(), rfl, trivial, by rw [ht]; exact hP9, va_K.moved hW.alike hK9, hD9⟩, hS.F ht⟩) hS.2.2 dX5_sortFirsts_99
  · exact absurd c_3 (by decide)
set_option maxHeartbeats 4000000 in
set_option maxRecDepth 100000 in
theorem c_addRowsUnder (l : Launch) (hlf : l.stackTraces = false) (dC : Nat → ClassId) (dI : Nat → Nat → Nat) (x : Nat) (xe : Nat) (xn : Nat) (xso : Nat) (xro : Nat) (xga : Nat) (xlo : Nat) (xse : Nat) (xwa : Nat) (xst : Nat) (xou : Nat) (xdr : Nat) (xr1 : Nat) (sz : Nat) : Met l yX5_addRowsUnder [.code yX5_addRowsUnder cX5_addRowsUnder 5 none] ({ frames := 1, cells := 0, slots := 0, locals := 20 }) (va_Pc [.ref x, .int (-1), .int 0] (kx_Pre dC dI [(x, .inr (5, [.ref xe, .ref xn, .int 0, .int 1, .int 1, .ref xso, .ref xro, .int 0, .ref xga, .ref xlo, .int (-1), .ref xse, .ref xwa, .ref xst, .ref xou, .ref xdr])), (xso, .inr (1, [.int 80, .ref xr1, .int 0]))] [] sz)) (va_Qv (fun u : Unit => match u with | _ => True) (fun (u : Unit) (t : State) => match u with | _ => kx_At dC dI (va_A [(x, .inr (5, [.ref xe, .ref xn, .int 0, .int 1, .int 1, .ref xso, .ref xro, .int 0, .ref xga, .ref xlo, .int (-1), .ref xse, .ref xwa, .ref xst, .ref xou, .ref xdr])), (xso, .inr (1, [.int 80, .ref xr1, .int 0]))] sz) [(x, .inr (5, [.ref xe, .ref xn, .int 0, .int 1, .int 1, .ref xso, .ref xro, .int 0, .ref xga, .ref xlo, .int (-1), .ref xse, .ref xwa, .ref xst, .ref xou, .ref xdr])), (xso, .inr (1, [.int 80, .ref xr1, .int 0]))] [] t) (va_A [(x, .inr (5, [.ref xe, .ref xn, .int 0, .int 1, .int 1, .ref xso, .ref xro, .int 0, .ref xga, .ref xlo, .int (-1), .ref xse, .ref xwa, .ref xst, .ref xou, .ref xdr])), (xso, .inr (1, [.int 80, .ref xr1, .int 0]))] sz)) 0 0 (va_A [(x, .inr (5, [.ref xe, .ref xn, .int 0, .int 1, .int 1, .ref xso, .ref xro, .int 0, .ref xga, .ref xlo, .int (-1), .ref xse, .ref xwa, .ref xst, .ref xou, .ref xdr])), (xso, .inr (1, [.int 80, .ref xr1, .int 0]))] sz) := by
  refine Met.ofW (cc := cX5_addRowsUnder) (maxL := 5) (ret := none) (by decide) rfl ?_
  intro p e s m args below meth c s₁ B hml hv
  obtain ⟨rfl, hsz, hP, hK, hD0, hG, hZ⟩ := hv
  have hx := B.exec
  have hb := B.bytes
  have hr := B.returns
  have hts := kx_hts (a := #[.ref x, .int (-1), .int 0]) hG
  have hown : s.vm.findClass RX5 = some m.cls := findClass_of_methodNamed B.named
  have hlocks := B.notSynchronized
  subst hsz
  have hD := hD0.self (sz := s.heap.size)
  generalize hAe : va_A [(x, .inr (5, [.ref xe, .ref xn, .int 0, .int 1, .int 1, .ref xso, .ref xro, .int 0, .ref xga, .ref xlo, .int (-1), .ref xse, .ref xwa, .ref xst, .ref xou, .ref xdr])), (xso, .inr (1, [.int 80, .ref xr1, .int 0]))] s.heap.size = A at hD hZ ⊢
  have hA : ∀ q : Nat, s.heap.size ≤ q → A q := fun q h => by rw [← hAe]; exact Or.inr h
  have hS : va_S A s.heap s.heap [] := va_S.rf
  have hP : va_P (dC, dI) kxCl [(x, .inr (5, [.ref xe, .ref xn, .int 0, .int 1, .int 1, .ref xso, .ref xro, .int 0, .ref xga, .ref xlo, .int (-1), .ref xse, .ref xwa, .ref xst, .ref xou, .ref xdr])), (xso, .inr (1, [.int 80, .ref xr1, .int 0]))] s.heap := hP
  have hl := lv_entry ([.ref x, .int (-1), .int 0]) (n := 5) (Nat.le_of_ble_eq_true rfl)
  rw [lg_entry_eq]
  generalize (lg_sl ([.ref x, .int (-1), .int 0]) ++ List.replicate (5 - (lg_sl ([.ref x, .int (-1), .int 0])).length) Slot.unset).toArray = ls at hl ⊢
  have hl : lv_has ls 5 [(0, .ref x), (1, .int (-1)), (2, .int 0)] := hl
  refine lv_iload_n hx hb dX5_addRowsUnder_0 rfl (lv_at hl 2 rfl) ?_
  refine lv_iconst (v := 3) hx hb dX5_addRowsUnder_1 (by decide) ?_
  refine lv_icmp_lt (tgt := 6) hx hb dX5_addRowsUnder_2 (by decide) (fun c_1 => ?_) (fun c_1 => ?_)
  · skip
    refine lv_iconst (v := 0) hx hb dX5_addRowsUnder_6 (by decide) ?_
    refine lv_istore_n (lv' := [(3, .int 0), (0, .ref x), (1, .int (-1)), (2, .int 0)]) hx hb dX5_addRowsUnder_7 rfl hl (by decide) rfl (fun ls hl => ?_)
    refine lv_iload_n hx hb dX5_addRowsUnder_8 rfl (lv_at hl 0 rfl) ?_
    refine lv_aload_n hx hb dX5_addRowsUnder_9 rfl (lv_at hl 1 rfl) ?_
    refine va_get (D := (dC, dI)) (ci := 5) (v := .ref xso) (C := RX5) (T := TX5) (N := 16) hx hb hts kt_X5 hown hK hP 0 rfl rfl 5 (by decide) (kx_word hG kq_64 rfl) (fun _ h9 => h9) rfl dX5_addRowsUnder_10 ?_
    have hPc := hP.sub (ws' := [(xso, .inr (1, [.int 80, .ref xr1, .int 0]))]) [1] rfl
    have hDc := hD.sub (ws' := [(xso, .inr (1, [.int 80, .ref xr1, .int 0]))]) [1] (by decide) rfl
    have hKc := hK.sub (tys' := []) [] rfl
    have hFc := va_free (wc := [(xso, .inr (1, [.int 80, .ref xr1, .int 0]))]) hD hS hA [1] rfl
    refine va_calli (va_runV (As := []) (rest := [.int 0]) ⟨hx, hb, hml, hown, hts⟩ (c_Ints_size l hlf dC dI xso 80 xr1 0 s.heap.size ) (cwV 0 hts (kx_gV kq_114 kq_115 kq_116 kq_21 kq_117 rfl) rfl rfl rfl (by decide +kernel) ⟨Nat.le_of_ble_eq_true rfl, Nat.le_of_ble_eq_true rfl⟩) ⟨kx_blind, va_recv hKc hPc (ci := 1) (q0 := 0) rfl rfl, kx_give (ws := []) (tys := []) hPc hDc hKc hG hZ hS hFc⟩ rfl rfl hl.1 rfl (lv_room (Nat.le_of_ble_eq_true rfl)) dX5_addRowsUnder_13 ⟨Nat.le_of_ble_eq_true rfl, Nat.le_of_ble_eq_true rfl⟩) hS (fun q _ h => hFc q h) hFc (fun r_2 u t H1 locs ht hvm hw_3 hB hz1 hk1 hS => ?_)
    obtain ⟨hP1, hK1, hD1⟩ := hB
    rw [ht] at hP1
    have hK1 := va_K.moved hvm.symm hK1
    try dsimp only at hw_3
    obtain ⟨hP, hD⟩ := va_join (wr := [(x, .inr (5, [.ref xe, .ref xn, .int 0, .int 1, .int 1, .ref xso, .ref xro, .int 0, .ref xga, .ref xlo, .int (-1), .ref xse, .ref xwa, .ref xst, .ref xou, .ref xdr]))]) (w1 := [(xso, .inr (1, [.int 80, .ref xr1, .int 0]))]) hP hD [1] [0] rfl rfl (by decide) (by decide) hk1 hFc hP1 hD1
    have hK := (hK.sub (tys' := []) [] rfl).app hK1
    generalize H1 = H at hP hS ⊢
    have hP : va_P (dC, dI) kxCl [(x, .inr (5, [.ref xe, .ref xn, .int 0, .int 1, .int 1, .ref xso, .ref xro, .int 0, .ref xga, .ref xlo, .int (-1), .ref xse, .ref xwa, .ref xst, .ref xou, .ref xdr])), (xso, .inr (1, [.int 80, .ref xr1, .int 0]))] H := hP
    have hD : va_D A [(x, .inr (5, [.ref xe, .ref xn, .int 0, .int 1, .int 1, .ref xso, .ref xro, .int 0, .ref xga, .ref xlo, .int (-1), .ref xse, .ref xwa, .ref xst, .ref xou, .ref xdr])), (xso, .inr (1, [.int 80, .ref xr1, .int 0]))] := hD
    have hK : va_K (dC, dI) kxCl [] s := hK
    subst hw_3
    refine lv_icmp_ge (tgt := 83) hx hb dX5_addRowsUnder_16 (by decide) (fun c_4 => ?_) (fun c_4 => ?_)
    · skip
      have hP9 := hP.sub (ws' := [(x, .inr (5, [.ref xe, .ref xn, .int 0, .int 1, .int 1, .ref xso, .ref xro, .int 0, .ref xga, .ref xlo, .int (-1), .ref xse, .ref xwa, .ref xst, .ref xou, .ref xdr])), (xso, .inr (1, [.int 80, .ref xr1, .int 0]))]) [0, 1] rfl
      have hD9 := hD.sub (ws' := [(x, .inr (5, [.ref xe, .ref xn, .int 0, .int 1, .int 1, .ref xso, .ref xro, .int 0, .ref xga, .ref xlo, .int (-1), .ref xse, .ref xwa, .ref xst, .ref xou, .ref xdr])), (xso, .inr (1, [.int 80, .ref xr1, .int 0]))]) [0, 1] (by decide) rfl
      have hK9 := hK.sub (tys' := []) [] rfl
      exact W.vret hx hb hr (fun t ht hW => ⟨⟨(), rfl, trivial, by rw [ht]; exact hP9, va_K.moved hW.alike hK9, hD9⟩, hS.F ht⟩) hS.2.2 dX5_addRowsUnder_83
    · exact absurd c_4 (by decide)
  · exact absurd c_1 (by decide)
set_option maxHeartbeats 4000000 in
set_option maxRecDepth 100000 in
theorem c_findRows (l : Launch) (hlf : l.stackTraces = false) (dC : Nat → ClassId) (dI : Nat → Nat → Nat) (x : Nat) (xe : Nat) (xn : Nat) (xso : Nat) (xro : Nat) (xga : Nat) (xlo : Nat) (xse : Nat) (xwa : Nat) (xst : Nat) (xou : Nat) (xdr : Nat) (xr1 : Nat) (xr2 : Nat) (sz : Nat) : Met l yX5_findRows [.code yX5_findRows cX5_findRows 2 none] ({ frames := 2, cells := 0, slots := 0, locals := 44 }) (va_Pc [.ref x] (kx_Pre dC dI [(x, .inr (5, [.ref xe, .ref xn, .int 0, .int 1, .int 1, .ref xso, .ref xro, .int 0, .ref xga, .ref xlo, .int (-1), .ref xse, .ref xwa, .ref xst, .ref xou, .ref xdr])), (xso, .inr (1, [.int 80, .ref xr1, .int 0])), (xro, .inr (1, [.int 80, .ref xr2, .int 0]))] [] sz)) (va_Qv (fun u : Unit => match u with | _ => True) (fun (u : Unit) (t : State) => match u with | _ => kx_At dC dI (va_A [(x, .inr (5, [.ref xe, .ref xn, .int 0, .int 1, .int 1, .ref xso, .ref xro, .int 0, .ref xga, .ref xlo, .int (-1), .ref xse, .ref xwa, .ref xst, .ref xou, .ref xdr])), (xso, .inr (1, [.int 80, .ref xr1, .int 0])), (xro, .inr (1, [.int 80, .ref xr2, .int 0]))] sz) [(x, .inr (5, [.ref xe, .ref xn, .int 0, .int 1, .int 1, .ref xso, .ref xro, .int 1, .ref xga, .ref xlo, .int (-1), .ref xse, .ref xwa, .ref xst, .ref xou, .ref xdr])), (xso, .inr (1, [.int 80, .ref xr1, .int 0])), (xro, .inr (1, [.int 80, .ref xr2, .int 0]))] [] t) (va_A [(x, .inr (5, [.ref xe, .ref xn, .int 0, .int 1, .int 1, .ref xso, .ref xro, .int 0, .ref xga, .ref xlo, .int (-1), .ref xse, .ref xwa, .ref xst, .ref xou, .ref xdr])), (xso, .inr (1, [.int 80, .ref xr1, .int 0])), (xro, .inr (1, [.int 80, .ref xr2, .int 0]))] sz)) 0 0 (va_A [(x, .inr (5, [.ref xe, .ref xn, .int 0, .int 1, .int 1, .ref xso, .ref xro, .int 0, .ref xga, .ref xlo, .int (-1), .ref xse, .ref xwa, .ref xst, .ref xou, .ref xdr])), (xso, .inr (1, [.int 80, .ref xr1, .int 0])), (xro, .inr (1, [.int 80, .ref xr2, .int 0]))] sz) := by
  refine Met.ofW (cc := cX5_findRows) (maxL := 2) (ret := none) (by decide) rfl ?_
  intro p e s m args below meth c s₁ B hml hv
  obtain ⟨rfl, hsz, hP, hK, hD0, hG, hZ⟩ := hv
  have hx := B.exec
  have hb := B.bytes
  have hr := B.returns
  have hts := kx_hts (a := #[.ref x]) hG
  have hown : s.vm.findClass RX5 = some m.cls := findClass_of_methodNamed B.named
  have hlocks := B.notSynchronized
  subst hsz
  have hD := hD0.self (sz := s.heap.size)
  generalize hAe : va_A [(x, .inr (5, [.ref xe, .ref xn, .int 0, .int 1, .int 1, .ref xso, .ref xro, .int 0, .ref xga, .ref xlo, .int (-1), .ref xse, .ref xwa, .ref xst, .ref xou, .ref xdr])), (xso, .inr (1, [.int 80, .ref xr1, .int 0])), (xro, .inr (1, [.int 80, .ref xr2, .int 0]))] s.heap.size = A at hD hZ ⊢
  have hA : ∀ q : Nat, s.heap.size ≤ q → A q := fun q h => by rw [← hAe]; exact Or.inr h
  have hS : va_S A s.heap s.heap [] := va_S.rf
  have hP : va_P (dC, dI) kxCl [(x, .inr (5, [.ref xe, .ref xn, .int 0, .int 1, .int 1, .ref xso, .ref xro, .int 0, .ref xga, .ref xlo, .int (-1), .ref xse, .ref xwa, .ref xst, .ref xou, .ref xdr])), (xso, .inr (1, [.int 80, .ref xr1, .int 0])), (xro, .inr (1, [.int 80, .ref xr2, .int 0]))] s.heap := hP
  have hl := lv_entry ([.ref x]) (n := 2) (Nat.le_of_ble_eq_true rfl)
  rw [lg_entry_eq]
  generalize (lg_sl ([.ref x]) ++ List.replicate (2 - (lg_sl ([.ref x])).length) Slot.unset).toArray = ls at hl ⊢
  have hl : lv_has ls 2 [(0, .ref x)] := hl
  refine lv_aload_n hx hb dX5_findRows_0 rfl (lv_at hl 0 rfl) ?_
  refine va_get (D := (dC, dI)) (ci := 5) (v := .int 0) (C := RX5) (T := TX5) (N := 16) hx hb hts kt_X5 hown hK hP 0 rfl rfl 7 (by decide) (kx_word hG kq_66 rfl) (fun _ h9 => h9) rfl dX5_findRows_1 ?_
  refine lv_if_eq (tgt := 8) hx hb dX5_findRows_4 (by decide) (fun c_1 => ?_) (fun c_1 => ?_)
  · skip
    refine lv_iconst (v := 0) hx hb dX5_findRows_8 (by decide) ?_
    refine lv_istore_n (lv' := [(1, .int 0), (0, .ref x)]) hx hb dX5_findRows_9 rfl hl (by decide) rfl (fun ls hl => ?_)
    refine lv_iload_n hx hb dX5_findRows_10 rfl (lv_at hl 0 rfl) ?_
    refine lv_aload_n hx hb dX5_findRows_11 rfl (lv_at hl 1 rfl) ?_
    refine va_get (D := (dC, dI)) (ci := 5) (v := .int 0) (C := RX5) (T := TX5) (N := 16) hx hb hts kt_X5 hown hK hP 0 rfl rfl 2 (by decide) (kx_word hG kq_59 rfl) (fun _ h9 => h9) rfl dX5_findRows_12 ?_
    refine lv_icmp_ge (tgt := 37) hx hb dX5_findRows_15 (by decide) (fun c_2 => ?_) (fun c_2 => ?_)
    · skip
      refine lv_aload_n hx hb dX5_findRows_37 rfl (lv_at hl 1 rfl) ?_
      have hPc := hP.sub (ws' := [(x, .inr (5, [.ref xe, .ref xn, .int 0, .int 1, .int 1, .ref xso, .ref xro, .int 0, .ref xga, .ref xlo, .int (-1), .ref xse, .ref xwa, .ref xst, .ref xou, .ref xdr])), (xso, .inr (1, [.int 80, .ref xr1, .int 0]))]) [0, 1] rfl
      have hDc := hD.sub (ws' := [(x, .inr (5, [.ref xe, .ref xn, .int 0, .int 1, .int 1, .ref xso, .ref xro, .int 0, .ref xga, .ref xlo, .int (-1), .ref xse, .ref xwa, .ref xst, .ref xou, .ref xdr])), (xso, .inr (1, [.int 80, .ref xr1, .int 0]))]) [0, 1] (by decide) rfl
      have hKc := hK.sub (tys' := []) [] rfl
      have hFc := va_free (wc := [(x, .inr (5, [.ref xe, .ref xn, .int 0, .int 1, .int 1, .ref xso, .ref xro, .int 0, .ref xga, .ref xlo, .int (-1), .ref xse, .ref xwa, .ref xst, .ref xou, .ref xdr])), (xso, .inr (1, [.int 80, .ref xr1, .int 0]))]) hD hS hA [0, 1] rfl
      refine va_callv (va_runV (As := []) (rest := []) ⟨hx, hb, hml, hown, hts⟩ (c_sortFirsts l hlf dC dI x xe xn xso xro xga xlo xse xwa xst xou xdr xr1 s.heap.size ) (cwV 0 hts (kx_gV kq_118 kq_119 kq_120 kq_92 kq_121 rfl) rfl rfl rfl (by decide +kernel) ⟨Nat.le_of_ble_eq_true rfl, Nat.le_of_ble_eq_true rfl⟩) ⟨kx_blind, va_recv hKc hPc (ci := 5) (q0 := 0) rfl rfl, kx_give (ws := []) (tys := []) hPc hDc hKc hG hZ hS hFc⟩ rfl rfl hl.1 rfl (lv_room (Nat.le_of_ble_eq_true rfl)) dX5_findRows_38 ⟨Nat.le_of_ble_eq_true rfl, Nat.le_of_ble_eq_true rfl⟩) hS (fun q _ h => hFc q h) hFc (fun u t H1 locs ht hvm hw_4 hB hz1 hk1 hS => ?_)
      obtain ⟨hP1, hK1, hD1⟩ := hB
      rw [ht] at hP1
      have hK1 := va_K.moved hvm.symm hK1
      try dsimp only at hw_4
      obtain ⟨hP, hD⟩ := va_join (wr := [(xro, .inr (1, [.int 80, .ref xr2, .int 0]))]) (w1 := [(x, .inr (5, [.ref xe, .ref xn, .int 0, .int 1, .int 1, .ref xso, .ref xro, .int 0, .ref xga, .ref xlo, .int (-1), .ref xse, .ref xwa, .ref xst, .ref xou, .ref xdr])), (xso, .inr (1, [.int 80, .ref xr1, .int 0]))]) hP hD [0, 1] [2] rfl rfl (by decide) (by decide) hk1 hFc hP1 hD1
      have hK := (hK.sub (tys' := []) [] rfl).app hK1
      generalize H1 = H at hP hS ⊢
      have hP : va_P (dC, dI) kxCl [(xro, .inr (1, [.int 80, .ref xr2, .int 0])), (x, .inr (5, [.ref xe, .ref xn, .int 0, .int 1, .int 1, .ref xso, .ref xro, .int 0, .ref xga, .ref xlo, .int (-1), .ref xse, .ref xwa, .ref xst, .ref xou, .ref xdr])), (xso, .inr (1, [.int 80, .ref xr1, .int 0]))] H := hP
      have hD : va_D A [(xro, .inr (1, [.int 80, .ref xr2, .int 0])), (x, .inr (5, [.ref xe, .ref xn, .int 0, .int 1, .int 1, .ref xso, .ref xro, .int 0, .ref xga, .ref xlo, .int (-1), .ref xse, .ref xwa, .ref xst, .ref xou, .ref xdr])), (xso, .inr (1, [.int 80, .ref xr1, .int 0]))] := hD
      have hK : va_K (dC, dI) kxCl [] s := hK
      refine lv_aload_n hx hb dX5_findRows_41 rfl (lv_at hl 1 rfl) ?_
      refine va_get (D := (dC, dI)) (ci := 5) (v := .ref xro) (C := RX5) (T := TX5) (N := 16) hx hb hts kt_X5 hown hK hP 1 rfl rfl 6 (by decide) (kx_word hG kq_65 rfl) (fun _ h9 => h9) rfl dX5_findRows_42 ?_
      have hPc := hP.sub (ws' := [(xro, .inr (1, [.int 80, .ref xr2, .int 0]))]) [0] rfl
      have hDc := hD.sub (ws' := [(xro, .inr (1, [.int 80, .ref xr2, .int 0]))]) [0] (by decide) rfl
      have hKc := hK.sub (tys' := []) [] rfl
      have hFc := va_free (wc := [(xro, .inr (1, [.int 80, .ref xr2, .int 0]))]) hD hS hA [0] rfl
      refine va_callv (va_runV (As := []) (rest := []) ⟨hx, hb, hml, hown, hts⟩ (c_Ints_clear l hlf dC dI xro 80 xr2 0 H.size ) (cwV 0 hts (kx_gV kq_110 kq_111 kq_112 kq_21 kq_113 rfl) rfl rfl rfl (by decide +kernel) ⟨Nat.le_of_ble_eq_true rfl, Nat.le_of_ble_eq_true rfl⟩) ⟨kx_blind, va_recv hKc hPc (ci := 1) (q0 := 0) rfl rfl, kx_give (ws := []) (tys := []) hPc hDc hKc hG hZ hS hFc⟩ rfl rfl hl.1 rfl (lv_room (Nat.le_of_ble_eq_true rfl)) dX5_findRows_45 ⟨Nat.le_of_ble_eq_true rfl, Nat.le_of_ble_eq_true rfl⟩) hS (fun q _ h => hFc q h) hFc (fun u t H1 locs ht hvm hw_6 hB hz1 hk1 hS => ?_)
      obtain ⟨hP1, hK1, hD1⟩ := hB
      rw [ht] at hP1
      have hK1 := va_K.moved hvm.symm hK1
      try dsimp only at hw_6
      obtain ⟨hP, hD⟩ := va_join (wr := [(x, .inr (5, [.ref xe, .ref xn, .int 0, .int 1, .int 1, .ref xso, .ref xro, .int 0, .ref xga, .ref xlo, .int (-1), .ref xse, .ref xwa, .ref xst, .ref xou, .ref xdr])), (xso, .inr (1, [.int 80, .ref xr1, .int 0]))]) (w1 := [(xro, .inr (1, [.int 80, .ref xr2, .int 0]))]) hP hD [0] [1, 2] rfl rfl (by decide) (by decide) hk1 hFc hP1 hD1
      have hK := (hK.sub (tys' := []) [] rfl).app hK1
      generalize H1 = H at hP hS ⊢
      have hP : va_P (dC, dI) kxCl [(x, .inr (5, [.ref xe, .ref xn, .int 0, .int 1, .int 1, .ref xso, .ref xro, .int 0, .ref xga, .ref xlo, .int (-1), .ref xse, .ref xwa, .ref xst, .ref xou, .ref xdr])), (xso, .inr (1, [.int 80, .ref xr1, .int 0])), (xro, .inr (1, [.int 80, .ref xr2, .int 0]))] H := hP
      have hD : va_D A [(x, .inr (5, [.ref xe, .ref xn, .int 0, .int 1, .int 1, .ref xso, .ref xro, .int 0, .ref xga, .ref xlo, .int (-1), .ref xse, .ref xwa, .ref xst, .ref xou, .ref xdr])), (xso, .inr (1, [.int 80, .ref xr1, .int 0])), (xro, .inr (1, [.int 80, .ref xr2, .int 0]))] := hD
      have hK : va_K (dC, dI) kxCl [] s := hK
      refine lv_aload_n hx hb dX5_findRows_48 rfl (lv_at hl 1 rfl) ?_
      refine lv_iconst (v := (-1)) hx hb dX5_findRows_49 (by decide) ?_
      refine lv_iconst (v := 0) hx hb dX5_findRows_50 (by decide) ?_
      have hPc := hP.sub (ws' := [(x, .inr (5, [.ref xe, .ref xn, .int 0, .int 1, .int 1, .ref xso, .ref xro, .int 0, .ref xga, .ref xlo, .int (-1), .ref xse, .ref xwa, .ref xst, .ref xou, .ref xdr])), (xso, .inr (1, [.int 80, .ref xr1, .int 0]))]) [0, 1] rfl
      have hDc := hD.sub (ws' := [(x, .inr (5, [.ref xe, .ref xn, .int 0, .int 1, .int 1, .ref xso, .ref xro, .int 0, .ref xga, .ref xlo, .int (-1), .ref xse, .ref xwa, .ref xst, .ref xou, .ref xdr])), (xso, .inr (1, [.int 80, .ref xr1, .int 0]))]) [0, 1] (by decide) rfl
      have hKc := hK.sub (tys' := []) [] rfl
      have hFc := va_free (wc := [(x, .inr (5, [.ref xe, .ref xn, .int 0, .int 1, .int 1, .ref xso, .ref xro, .int 0, .ref xga, .ref xlo, .int (-1), .ref xse, .ref xwa, .ref xst, .ref xou, .ref xdr])), (xso, .inr (1, [.int 80, .ref xr1, .int 0]))]) hD hS hA [0, 1] rfl
      refine va_callv (va_runV (As := [.int (-1), .int 0]) (rest := []) ⟨hx, hb, hml, hown, hts⟩ (c_addRowsUnder l hlf dC dI x xe xn xso xro xga xlo xse xwa xst xou xdr xr1 H.size ) (cwV 2 hts (kx_gV kq_122 kq_123 kq_124 kq_92 kq_125 rfl) rfl rfl rfl (by decide +kernel) ⟨Nat.le_of_ble_eq_true rfl, Nat.le_of_ble_eq_true rfl⟩) ⟨kx_blind, va_recv hKc hPc (ci := 5) (q0 := 0) rfl rfl, kx_give (ws := []) (tys := []) hPc hDc hKc hG hZ hS hFc⟩ rfl rfl hl.1 rfl (lv_room (Nat.le_of_ble_eq_true rfl)) dX5_findRows_51 ⟨Nat.le_of_ble_eq_true rfl, Nat.le_of_ble_eq_true rfl⟩) hS (fun q _ h => hFc q h) hFc (fun u t H1 locs ht hvm hw_8 hB hz1 hk1 hS => ?_)
      obtain ⟨hP1, hK1, hD1⟩ := hB
      rw [ht] at hP1
      have hK1 := va_K.moved hvm.symm hK1
      try dsimp only at hw_8
      obtain ⟨hP, hD⟩ := va_join (wr := [(xro, .inr (1, [.int 80, .ref xr2, .int 0]))]) (w1 := [(x, .inr (5, [.ref xe, .ref xn, .int 0, .int 1, .int 1, .ref xso, .ref xro, .int 0, .ref xga, .ref xlo, .int (-1), .ref xse, .ref xwa, .ref xst, .ref xou, .ref xdr])), (xso, .inr (1, [.int 80, .ref xr1, .int 0]))]) hP hD [0, 1] [2] rfl rfl (by decide) (by decide) hk1 hFc hP1 hD1
      have hK := (hK.sub (tys' := []) [] rfl).app hK1
      generalize H1 = H at hP hS ⊢
      have hP : va_P (dC, dI) kxCl [(xro, .inr (1, [.int 80, .ref xr2, .int 0])), (x, .inr (5, [.ref xe, .ref xn, .int 0, .int 1, .int 1, .ref xso, .ref xro, .int 0, .ref xga, .ref xlo, .int (-1), .ref xse, .ref xwa, .ref xst, .ref xou, .ref xdr])), (xso, .inr (1, [.int 80, .ref xr1, .int 0]))] H := hP
      have hD : va_D A [(xro, .inr (1, [.int 80, .ref xr2, .int 0])), (x, .inr (5, [.ref xe, .ref xn, .int 0, .int 1, .int 1, .ref xso, .ref xro, .int 0, .ref xga, .ref xlo, .int (-1), .ref xse, .ref xwa, .ref xst, .ref xou, .ref xdr])), (xso, .inr (1, [.int 80, .ref xr1, .int 0]))] := hD
      have hK : va_K (dC, dI) kxCl [] s := hK
      refine lv_aload_n hx hb dX5_findRows_54 rfl (lv_at hl 1 rfl) ?_
      refine lv_iconst (v := 1) hx hb dX5_findRows_55 (by decide) ?_
      refine va_put (D := (dC, dI)) (ci := 5) (v := .int 1) (ty := .boolean) (C := RX5) (T := TX5) (N := 16) hx hb hts kt_X5 tyX5 tyX5_ok nmX5 hown hK hP hD hS 1 rfl rfl 7 (by decide) (kx_word hG kq_66 rfl) (fun _ h9 => h9) rfl (by decide +kernel) (by decide) (by decide) (Nat.le_of_ble_eq_true rfl) dX5_findRows_56 (fun H locs hP hD hS => ?_)
      have hP : va_P (dC, dI) kxCl [(xro, .inr (1, [.int 80, .ref xr2, .int 0])), (x, .inr (5, [.ref xe, .ref xn, .int 0, .int 1, .int 1, .ref xso, .ref xro, .int 1, .ref xga, .ref xlo, .int (-1), .ref xse, .ref xwa, .ref xst, .ref xou, .ref xdr])), (xso, .inr (1, [.int 80, .ref xr1, .int 0]))] H := hP
      have hD : va_D A [(xro, .inr (1, [.int 80, .ref xr2, .int 0])), (x, .inr (5, [.ref xe, .ref xn, .int 0, .int 1, .int 1, .ref xso, .ref xro, .int 1, .ref xga, .ref xlo, .int (-1), .ref xse, .ref xwa, .ref xst, .ref xou, .ref xdr])), (xso, .inr (1, [.int 80, .ref xr1, .int 0]))] := hD
      have hP9 := hP.sub (ws' := [(x, .inr (5, [.ref xe, .ref xn, .int 0, .int 1, .int 1, .ref xso, .ref xro, .int 1, .ref xga, .ref xlo, .int (-1), .ref xse, .ref xwa, .ref xst, .ref xou, .ref xdr])), (xso, .inr (1, [.int 80, .ref xr1, .int 0])), (xro, .inr (1, [.int 80, .ref xr2, .int 0]))]) [1, 2, 0] rfl
      have hD9 := hD.sub (ws' := [(x, .inr (5, [.ref xe, .ref xn, .int 0, .int 1, .int 1, .ref xso, .ref xro, .int 1, .ref xga, .ref xlo, .int (-1), .ref xse, .ref xwa, .ref xst, .ref xou, .ref xdr])), (xso, .inr (1, [.int 80, .ref xr1, .int 0])), (xro, .inr (1, [.int 80, .ref xr2, .int 0]))]) [1, 2, 0] (by decide) rfl
      have hK9 := hK.sub (tys' := []) [] rfl
      exact W.vret hx hb hr (fun t ht hW => ⟨⟨(), rfl, trivial, by rw [ht]; exact hP9, va_K.moved hW.alike hK9, hD9⟩, hS.F ht⟩) hS.2.2 dX5_findRows_59
    · exact absurd c_2 (by decide)
  · exact absurd c_1 (by decide)
set_option maxHeartbeats 4000000 in
set_option maxRecDepth 100000 in
theorem c_run (l : Launch) (hlf : l.stackTraces = false) (dC : Nat → ClassId) (dI : Nat → Nat → Nat) (x : Nat) (xe : Nat) (xn : Nat) (xso : Nat) (xro : Nat) (xga : Nat) (xlo : Nat) (xse : Nat) (xwa : Nat) (xst : Nat) (xou : Nat) (xdr : Nat) (xr1 : Nat) (xr2 : Nat) (sz : Nat) : Met l yX5_run [.code yX5_run cX5_run 1 (some .int)] ({ frames := 3, cells := 0, slots := 0, locals := 65 }) (va_Pc [.ref x] (kx_Pre dC dI [(x, .inr (5, [.ref xe, .ref xn, .int 0, .int 1, .int 1, .ref xso, .ref xro, .int 0, .ref xga, .ref xlo, .int (-1), .ref xse, .ref xwa, .ref xst, .ref xou, .ref xdr])), (xso, .inr (1, [.int 80, .ref xr1, .int 0])), (xro, .inr (1, [.int 80, .ref xr2, .int 0]))] [] sz)) (va_Qi (fun (r : Int32) (u : Unit) => match u with | _ => r = 0) (fun (u : Unit) (t : State) => match u with | _ => kx_At dC dI (va_A [(x, .inr (5, [.ref xe, .ref xn, .int 0, .int 1, .int 1, .ref xso, .ref xro, .int 0, .ref xga, .ref xlo, .int (-1), .ref xse, .ref xwa, .ref xst, .ref xou, .ref xdr])), (xso, .inr (1, [.int 80, .ref xr1, .int 0])), (xro, .inr (1, [.int 80, .ref xr2, .int 0]))] sz) [] [] t) (va_A [(x, .inr (5, [.ref xe, .ref xn, .int 0, .int 1, .int 1, .ref xso, .ref xro, .int 0, .ref xga, .ref xlo, .int (-1), .ref xse, .ref xwa, .ref xst, .ref xou, .ref xdr])), (xso, .inr (1, [.int 80, .ref xr1, .int 0])), (xro, .inr (1, [.int 80, .ref xr2, .int 0]))] sz)) 0 0 (va_A [(x, .inr (5, [.ref xe, .ref xn, .int 0, .int 1, .int 1, .ref xso, .ref xro, .int 0, .ref xga, .ref xlo, .int (-1), .ref xse, .ref xwa, .ref xst, .ref xou, .ref xdr])), (xso, .inr (1, [.int 80, .ref xr1, .int 0])), (xro, .inr (1, [.int 80, .ref xr2, .int 0]))] sz) := by
  refine Met.ofW (cc := cX5_run) (maxL := 1) (ret := (some .int)) (by decide) rfl ?_
  intro p e s m args below meth c s₁ B hml hv
  obtain ⟨rfl, hsz, hP, hK, hD0, hG, hZ⟩ := hv
  have hx := B.exec
  have hb := B.bytes
  have hr := B.returns
  have hts := kx_hts (a := #[.ref x]) hG
  have hown : s.vm.findClass RX5 = some m.cls := findClass_of_methodNamed B.named
  have hlocks := B.notSynchronized
  subst hsz
  have hD := hD0.self (sz := s.heap.size)
  generalize hAe : va_A [(x, .inr (5, [.ref xe, .ref xn, .int 0, .int 1, .int 1, .ref xso, .ref xro, .int 0, .ref xga, .ref xlo, .int (-1), .ref xse, .ref xwa, .ref xst, .ref xou, .ref xdr])), (xso, .inr (1, [.int 80, .ref xr1, .int 0])), (xro, .inr (1, [.int 80, .ref xr2, .int 0]))] s.heap.size = A at hD hZ ⊢
  have hA : ∀ q : Nat, s.heap.size ≤ q → A q := fun q h => by rw [← hAe]; exact Or.inr h
  have hS : va_S A s.heap s.heap [] := va_S.rf
  have hP : va_P (dC, dI) kxCl [(x, .inr (5, [.ref xe, .ref xn, .int 0, .int 1, .int 1, .ref xso, .ref xro, .int 0, .ref xga, .ref xlo, .int (-1), .ref xse, .ref xwa, .ref xst, .ref xou, .ref xdr])), (xso, .inr (1, [.int 80, .ref xr1, .int 0])), (xro, .inr (1, [.int 80, .ref xr2, .int 0]))] s.heap := hP
  have hl := lv_entry ([.ref x]) (n := 1) (Nat.le_of_ble_eq_true rfl)
  rw [lg_entry_eq]
  generalize (lg_sl ([.ref x]) ++ List.replicate (1 - (lg_sl ([.ref x])).length) Slot.unset).toArray = ls at hl ⊢
  have hl : lv_has ls 1 [(0, .ref x)] := hl
  refine lv_aload_n hx hb dX5_run_0 rfl (lv_at hl 0 rfl) ?_
  have hPc := hP.sub (ws' := [(x, .inr (5, [.ref xe, .ref xn, .int 0, .int 1, .int 1, .ref xso, .ref xro, .int 0, .ref xga, .ref xlo, .int (-1), .ref xse, .ref xwa, .ref xst, .ref xou, .ref xdr])), (xso, .inr (1, [.int 80, .ref xr1, .int 0])), (xro, .inr (1, [.int 80, .ref xr2, .int 0]))]) [0, 1, 2] rfl
  have hDc := hD.sub (ws' := [(x, .inr (5, [.ref xe, .ref xn, .int 0, .int 1, .int 1, .ref xso, .ref xro, .int 0, .ref xga, .ref xlo, .int (-1), .ref xse, .ref xwa, .ref xst, .ref xou, .ref xdr])), (xso, .inr (1, [.int 80, .ref xr1, .int 0])), (xro, .inr (1, [.int 80, .ref xr2, .int 0]))]) [0, 1, 2] (by decide) rfl
  have hKc := hK.sub (tys' := []) [] rfl
  have hFc := va_free (wc := [(x, .inr (5, [.ref xe, .ref xn, .int 0, .int 1, .int 1, .ref xso, .ref xro, .int 0, .ref xga, .ref xlo, .int (-1), .ref xse, .ref xwa, .ref xst, .ref xou, .ref xdr])), (xso, .inr (1, [.int 80, .ref xr1, .int 0])), (xro, .inr (1, [.int 80, .ref xr2, .int 0]))]) hD hS hA [0, 1, 2] rfl
  refine va_callv (va_runV (As := []) (rest := []) ⟨hx, hb, hml, hown, hts⟩ (c_findRows l hlf dC dI x xe xn xso xro xga xlo xse xwa xst xou xdr xr1 xr2 s.heap.size ) (cwV 0 hts (kx_gV kq_126 kq_127 kq_128 kq_92 kq_129 rfl) rfl rfl rfl (by decide +kernel) ⟨Nat.le_of_ble_eq_true rfl, Nat.le_of_ble_eq_true rfl⟩) ⟨kx_blind, va_recv hKc hPc (ci := 5) (q0 := 0) rfl rfl, kx_give (ws := []) (tys := []) hPc hDc hKc hG hZ hS hFc⟩ rfl rfl hl.1 rfl (lv_room (Nat.le_of_ble_eq_true rfl)) dX5_run_1 ⟨Nat.le_of_ble_eq_true rfl, Nat.le_of_ble_eq_true rfl⟩) hS (fun q _ h => hFc q h) hFc (fun u t H1 locs ht hvm hw_2 hB hz1 hk1 hS => ?_)
  obtain ⟨hP1, hK1, hD1⟩ := hB
  rw [ht] at hP1
  have hK1 := va_K.moved hvm.symm hK1
  try dsimp only at hw_2
  obtain ⟨hP, hD⟩ := va_join (wr := []) (w1 := [(x, .inr (5, [.ref xe, .ref xn, .int 0, .int 1, .int 1, .ref xso, .ref xro, .int 1, .ref xga, .ref xlo, .int (-1), .ref xse, .ref xwa, .ref xst, .ref xou, .ref xdr])), (xso, .inr (1, [.int 80, .ref xr1, .int 0])), (xro, .inr (1, [.int 80, .ref xr2, .int 0]))]) hP hD [0, 1, 2] [] rfl rfl (by decide) (by decide) hk1 hFc hP1 hD1
  have hK := (hK.sub (tys' := []) [] rfl).app hK1
  generalize H1 = H at hP hS ⊢
  have hP : va_P (dC, dI) kxCl [(x, .inr (5, [.ref xe, .ref xn, .int 0, .int 1, .int 1, .ref xso, .ref xro, .int 1, .ref xga, .ref xlo, .int (-1), .ref xse, .ref xwa, .ref xst, .ref xou, .ref xdr])), (xso, .inr (1, [.int 80, .ref xr1, .int 0])), (xro, .inr (1, [.int 80, .ref xr2, .int 0]))] H := hP
  have hD : va_D A [(x, .inr (5, [.ref xe, .ref xn, .int 0, .int 1, .int 1, .ref xso, .ref xro, .int 1, .ref xga, .ref xlo, .int (-1), .ref xse, .ref xwa, .ref xst, .ref xou, .ref xdr])), (xso, .inr (1, [.int 80, .ref xr1, .int 0])), (xro, .inr (1, [.int 80, .ref xr2, .int 0]))] := hD
  have hK : va_K (dC, dI) kxCl [] s := hK
  refine lv_aload_n hx hb dX5_run_4 rfl (lv_at hl 0 rfl) ?_
  refine va_get (D := (dC, dI)) (ci := 5) (v := .ref xro) (C := RX5) (T := TX5) (N := 16) hx hb hts kt_X5 hown hK hP 0 rfl rfl 6 (by decide) (kx_word hG kq_65 rfl) (fun _ h9 => h9) rfl dX5_run_5 ?_
  have hPc := hP.sub (ws' := [(xro, .inr (1, [.int 80, .ref xr2, .int 0]))]) [2] rfl
  have hDc := hD.sub (ws' := [(xro, .inr (1, [.int 80, .ref xr2, .int 0]))]) [2] (by decide) rfl
  have hKc := hK.sub (tys' := []) [] rfl
  have hFc := va_free (wc := [(xro, .inr (1, [.int 80, .ref xr2, .int 0]))]) hD hS hA [2] rfl
  refine va_calli (va_runV (As := []) (rest := []) ⟨hx, hb, hml, hown, hts⟩ (c_Ints_size l hlf dC dI xro 80 xr2 0 H.size ) (cwV 0 hts (kx_gV kq_114 kq_115 kq_116 kq_21 kq_117 rfl) rfl rfl rfl (by decide +kernel) ⟨Nat.le_of_ble_eq_true rfl, Nat.le_of_ble_eq_true rfl⟩) ⟨kx_blind, va_recv hKc hPc (ci := 1) (q0 := 0) rfl rfl, kx_give (ws := []) (tys := []) hPc hDc hKc hG hZ hS hFc⟩ rfl rfl hl.1 rfl (lv_room (Nat.le_of_ble_eq_true rfl)) dX5_run_8 ⟨Nat.le_of_ble_eq_true rfl, Nat.le_of_ble_eq_true rfl⟩) hS (fun q _ h => hFc q h) hFc (fun r_3 u t H1 locs ht hvm hw_4 hB hz1 hk1 hS => ?_)
  obtain ⟨hP1, hK1, hD1⟩ := hB
  rw [ht] at hP1
  have hK1 := va_K.moved hvm.symm hK1
  try dsimp only at hw_4
  obtain ⟨hP, hD⟩ := va_join (wr := [(x, .inr (5, [.ref xe, .ref xn, .int 0, .int 1, .int 1, .ref xso, .ref xro, .int 1, .ref xga, .ref xlo, .int (-1), .ref xse, .ref xwa, .ref xst, .ref xou, .ref xdr])), (xso, .inr (1, [.int 80, .ref xr1, .int 0]))]) (w1 := [(xro, .inr (1, [.int 80, .ref xr2, .int 0]))]) hP hD [2] [0, 1] rfl rfl (by decide) (by decide) hk1 hFc hP1 hD1
  have hK := (hK.sub (tys' := []) [] rfl).app hK1
  generalize H1 = H at hP hS ⊢
  have hP : va_P (dC, dI) kxCl [(x, .inr (5, [.ref xe, .ref xn, .int 0, .int 1, .int 1, .ref xso, .ref xro, .int 1, .ref xga, .ref xlo, .int (-1), .ref xse, .ref xwa, .ref xst, .ref xou, .ref xdr])), (xso, .inr (1, [.int 80, .ref xr1, .int 0])), (xro, .inr (1, [.int 80, .ref xr2, .int 0]))] H := hP
  have hD : va_D A [(x, .inr (5, [.ref xe, .ref xn, .int 0, .int 1, .int 1, .ref xso, .ref xro, .int 1, .ref xga, .ref xlo, .int (-1), .ref xse, .ref xwa, .ref xst, .ref xou, .ref xdr])), (xso, .inr (1, [.int 80, .ref xr1, .int 0])), (xro, .inr (1, [.int 80, .ref xr2, .int 0]))] := hD
  have hK : va_K (dC, dI) kxCl [] s := hK
  subst hw_4
  have hP9 := hP.sub (ws' := []) [] rfl
  have hD9 := hD.sub (ws' := []) [] (by decide) rfl
  have hK9 := hK.sub (tys' := []) [] rfl
  exact W.iret (v := 0) hx hb hr (fun t ht hW => ⟨⟨0, (), rfl, rfl, by rw [ht]; exact hP9, va_K.moved hW.alike hK9, hD9⟩, hS.F ht⟩) hS.2.2 dX5_run_11
set_option maxHeartbeats 4000000 in
set_option maxRecDepth 100000 in
theorem c_row (l : Launch) (hlf : l.stackTraces = false) (dC : Nat → ClassId) (dI : Nat → Nat → Nat) (x : Nat) (xe : Nat) (xn : Nat) (xso : Nat) (xro : Nat) (xga : Nat) (xlo : Nat) (xse : Nat) (xwa : Nat) (xst : Nat) (xou : Nat) (xdr : Nat) (xr1 : Nat) (xr2 : Nat) (p0 : Int32) (p1 : Int32) (sz : Nat) : vx_Met l yX5_row [.code yX5_row cX5_row 4 (some .int)] ({ frames := 7, cells := 1, slots := 6, locals := 100 }) (va_Pc [.ref x, .int p0, .int p1] (kx_Pre dC dI [(x, .inr (5, [.ref xe, .ref xn, .int 0, .int 1, .int 1, .ref xso, .ref xro, .int 0, .ref xga, .ref xlo, .int (-1), .ref xse, .ref xwa, .ref xst, .ref xou, .ref xdr])), (xso, .inr (1, [.int 80, .ref xr1, .int 0])), (xro, .inr (1, [.int 80, .ref xr2, .int 0]))] [] sz)) (va_Qi (fun (r : Int32) (u : Unit) => match u with | _ => False) (fun (u : Unit) (t : State) => match u with | _ => kx_At dC dI (va_A [(x, .inr (5, [.ref xe, .ref xn, .int 0, .int 1, .int 1, .ref xso, .ref xro, .int 0, .ref xga, .ref xlo, .int (-1), .ref xse, .ref xwa, .ref xst, .ref xou, .ref xdr])), (xso, .inr (1, [.int 80, .ref xr1, .int 0])), (xro, .inr (1, [.int 80, .ref xr2, .int 0]))] sz) [] [] t) (va_A [(x, .inr (5, [.ref xe, .ref xn, .int 0, .int 1, .int 1, .ref xso, .ref xro, .int 0, .ref xga, .ref xlo, .int (-1), .ref xse, .ref xwa, .ref xst, .ref xou, .ref xdr])), (xso, .inr (1, [.int 80, .ref xr1, .int 0])), (xro, .inr (1, [.int 80, .ref xr2, .int 0]))] sz)) (vx_X (fun _ : Unit => True) (fun E _ _ => E = "java/lang/IndexOutOfBoundsException") (va_A [(x, .inr (5, [.ref xe, .ref xn, .int 0, .int 1, .int 1, .ref xso, .ref xro, .int 0, .ref xga, .ref xlo, .int (-1), .ref xse, .ref xwa, .ref xst, .ref xou, .ref xdr])), (xso, .inr (1, [.int 80, .ref xr1, .int 0])), (xro, .inr (1, [.int 80, .ref xr2, .int 0]))] sz)) 1 6 (va_A [(x, .inr (5, [.ref xe, .ref xn, .int 0, .int 1, .int 1, .ref xso, .ref xro, .int 0, .ref xga, .ref xlo, .int (-1), .ref xse, .ref xwa, .ref xst, .ref xou, .ref xdr])), (xso, .inr (1, [.int 80, .ref xr1, .int 0])), (xro, .inr (1, [.int 80, .ref xr2, .int 0]))] sz) := by
  refine vx_ofW (cc := cX5_row) (maxL := 4) (ret := (some .int)) (by decide) rfl ?_
  intro p e s m args below meth c s₁ B hml htab hv
  obtain ⟨rfl, hsz, hP, hK, hD0, hG, hZ⟩ := hv
  have hx := B.exec
  have hb := B.bytes
  have hr := B.returns
  have hts := kx_hts (a := #[.ref x, .int p0, .int p1]) hG
  have hown : s.vm.findClass RX5 = some m.cls := findClass_of_methodNamed B.named
  have hlocks := B.notSynchronized
  subst hsz
  have hD := hD0.self (sz := s.heap.size)
  generalize hAe : va_A [(x, .inr (5, [.ref xe, .ref xn, .int 0, .int 1, .int 1, .ref xso, .ref xro, .int 0, .ref xga, .ref xlo, .int (-1), .ref xse, .ref xwa, .ref xst, .ref xou, .ref xdr])), (xso, .inr (1, [.int 80, .ref xr1, .int 0])), (xro, .inr (1, [.int 80, .ref xr2, .int 0]))] s.heap.size = A at hD hZ ⊢
  have hA : ∀ q : Nat, s.heap.size ≤ q → A q := fun q h => by rw [← hAe]; exact Or.inr h
  have hS : va_S A s.heap s.heap [] := va_S.rf
  have hP : va_P (dC, dI) kxCl [(x, .inr (5, [.ref xe, .ref xn, .int 0, .int 1, .int 1, .ref xso, .ref xro, .int 0, .ref xga, .ref xlo, .int (-1), .ref xse, .ref xwa, .ref xst, .ref xou, .ref xdr])), (xso, .inr (1, [.int 80, .ref xr1, .int 0])), (xro, .inr (1, [.int 80, .ref xr2, .int 0]))] s.heap := hP
  have hl := lv_entry ([.ref x, .int p0, .int p1]) (n := 4) (Nat.le_of_ble_eq_true rfl)
  rw [lg_entry_eq]
  generalize (lg_sl ([.ref x, .int p0, .int p1]) ++ List.replicate (4 - (lg_sl ([.ref x, .int p0, .int p1])).length) Slot.unset).toArray = ls at hl ⊢
  have hl : lv_has ls 4 [(0, .ref x), (1, .int p0), (2, .int p1)] := hl
  refine lv_aload_n hx hb dX5_row_0 rfl (lv_at hl 0 rfl) ?_
  have hPc := hP.sub (ws' := [(x, .inr (5, [.ref xe, .ref xn, .int 0, .int 1, .int 1, .ref xso, .ref xro, .int 0, .ref xga, .ref xlo, .int (-1), .ref xse, .ref xwa, .ref xst, .ref xou, .ref xdr])), (xso, .inr (1, [.int 80, .ref xr1, .int 0])), (xro, .inr (1, [.int 80, .ref xr2, .int 0]))]) [0, 1, 2] rfl
  have hDc := hD.sub (ws' := [(x, .inr (5, [.ref xe, .ref xn, .int 0, .int 1, .int 1, .ref xso, .ref xro, .int 0, .ref xga, .ref xlo, .int (-1), .ref xse, .ref xwa, .ref xst, .ref xou, .ref xdr])), (xso, .inr (1, [.int 80, .ref xr1, .int 0])), (xro, .inr (1, [.int 80, .ref xr2, .int 0]))]) [0, 1, 2] (by decide) rfl
  have hKc := hK.sub (tys' := []) [] rfl
  have hFc := va_free (wc := [(x, .inr (5, [.ref xe, .ref xn, .int 0, .int 1, .int 1, .ref xso, .ref xro, .int 0, .ref xga, .ref xlo, .int (-1), .ref xse, .ref xwa, .ref xst, .ref xou, .ref xdr])), (xso, .inr (1, [.int 80, .ref xr1, .int 0])), (xro, .inr (1, [.int 80, .ref xr2, .int 0]))]) hD hS hA [0, 1, 2] rfl
  refine va_callv (va_runV (As := []) (rest := []) ⟨hx, hb, hml, hown, hts⟩ (c_findRows l hlf dC dI x xe xn xso xro xga xlo xse xwa xst xou xdr xr1 xr2 s.heap.size ) (cwV 0 hts (kx_gV kq_126 kq_127 kq_128 kq_92 kq_129 rfl) rfl rfl rfl (by decide +kernel) ⟨Nat.le_of_ble_eq_true rfl, Nat.le_of_ble_eq_true rfl⟩) ⟨kx_blind, va_recv hKc hPc (ci := 5) (q0 := 0) rfl rfl, kx_give (ws := []) (tys := []) hPc hDc hKc hG hZ hS hFc⟩ rfl rfl hl.1 rfl (lv_room (Nat.le_of_ble_eq_true rfl)) dX5_row_1 ⟨Nat.le_of_ble_eq_true rfl, Nat.le_of_ble_eq_true rfl⟩) hS (fun q _ h => hFc q h) hFc (fun u t H1 locs ht hvm hw_2 hB hz1 hk1 hS => ?_)
  obtain ⟨hP1, hK1, hD1⟩ := hB
  rw [ht] at hP1
  have hK1 := va_K.moved hvm.symm hK1
  try dsimp only at hw_2
  obtain ⟨hP, hD⟩ := va_join (wr := []) (w1 := [(x, .inr (5, [.ref xe, .ref xn, .int 0, .int 1, .int 1, .ref xso, .ref xro, .int 1, .ref xga, .ref xlo, .int (-1), .ref xse, .ref xwa, .ref xst, .ref xou, .ref xdr])), (xso, .inr (1, [.int 80, .ref xr1, .int 0])), (xro, .inr (1, [.int 80, .ref xr2, .int 0]))]) hP hD [0, 1, 2] [] rfl rfl (by decide) (by decide) hk1 hFc hP1 hD1
  have hK := (hK.sub (tys' := []) [] rfl).app hK1
  generalize H1 = H at hP hS ⊢
  have hP : va_P (dC, dI) kxCl [(x, .inr (5, [.ref xe, .ref xn, .int 0, .int 1, .int 1, .ref xso, .ref xro, .int 1, .ref xga, .ref xlo, .int (-1), .ref xse, .ref xwa, .ref xst, .ref xou, .ref xdr])), (xso, .inr (1, [.int 80, .ref xr1, .int 0])), (xro, .inr (1, [.int 80, .ref xr2, .int 0]))] H := hP
  have hD : va_D A [(x, .inr (5, [.ref xe, .ref xn, .int 0, .int 1, .int 1, .ref xso, .ref xro, .int 1, .ref xga, .ref xlo, .int (-1), .ref xse, .ref xwa, .ref xst, .ref xou, .ref xdr])), (xso, .inr (1, [.int 80, .ref xr1, .int 0])), (xro, .inr (1, [.int 80, .ref xr2, .int 0]))] := hD
  have hK : va_K (dC, dI) kxCl [] s := hK
  refine lv_iload_n hx hb dX5_row_4 rfl (lv_at hl 1 rfl) ?_
  refine lv_if_lt (tgt := 19) hx hb dX5_row_5 (by decide) (fun c_3 => ?_) (fun c_3 => ?_)
  · skip
    exact kx_thr_IOB hx hb hlf hown hG hZ hS (hl.1.trans hml.symm) dX5_row_19 dX5_row_22 dX5_row_23 dX5_row_26 htab (Nat.le_of_ble_eq_true rfl) (Nat.le_of_ble_eq_true rfl) (Nat.le_of_ble_eq_true rfl) (Nat.le_of_ble_eq_true rfl) hlocks (fun t hvm hF => ⟨(), trivial, rfl, hF⟩) hS.2.2 (by omega) (by omega)
  · skip
    refine lv_iload_n hx hb dX5_row_8 rfl (lv_at hl 1 rfl) ?_
    refine lv_aload_n hx hb dX5_row_9 rfl (lv_at hl 0 rfl) ?_
    refine va_get (D := (dC, dI)) (ci := 5) (v := .ref xro) (C := RX5) (T := TX5) (N := 16) hx hb hts kt_X5 hown hK hP 0 rfl rfl 6 (by decide) (kx_word hG kq_65 rfl) (fun _ h9 => h9) rfl dX5_row_10 ?_
    have hPc := hP.sub (ws' := [(xro, .inr (1, [.int 80, .ref xr2, .int 0]))]) [2] rfl
    have hDc := hD.sub (ws' := [(xro, .inr (1, [.int 80, .ref xr2, .int 0]))]) [2] (by decide) rfl
    have hKc := hK.sub (tys' := []) [] rfl
    have hFc := va_free (wc := [(xro, .inr (1, [.int 80, .ref xr2, .int 0]))]) hD hS hA [2] rfl
    refine va_calli (va_runV (As := []) (rest := [.int p0]) ⟨hx, hb, hml, hown, hts⟩ (c_Ints_size l hlf dC dI xro 80 xr2 0 H.size ) (cwV 0 hts (kx_gV kq_114 kq_115 kq_116 kq_21 kq_117 rfl) rfl rfl rfl (by decide +kernel) ⟨Nat.le_of_ble_eq_true rfl, Nat.le_of_ble_eq_true rfl⟩) ⟨kx_blind, va_recv hKc hPc (ci := 1) (q0 := 0) rfl rfl, kx_give (ws := []) (tys := []) hPc hDc hKc hG hZ hS hFc⟩ rfl rfl hl.1 rfl (lv_room (Nat.le_of_ble_eq_true rfl)) dX5_row_13 ⟨Nat.le_of_ble_eq_true rfl, Nat.le_of_ble_eq_true rfl⟩) hS (fun q _ h => hFc q h) hFc (fun r_4 u t H1 locs ht hvm hw_5 hB hz1 hk1 hS => ?_)
    obtain ⟨hP1, hK1, hD1⟩ := hB
    rw [ht] at hP1
    have hK1 := va_K.moved hvm.symm hK1
    try dsimp only at hw_5
    obtain ⟨hP, hD⟩ := va_join (wr := [(x, .inr (5, [.ref xe, .ref xn, .int 0, .int 1, .int 1, .ref xso, .ref xro, .int 1, .ref xga, .ref xlo, .int (-1), .ref xse, .ref xwa, .ref xst, .ref xou, .ref xdr])), (xso, .inr (1, [.int 80, .ref xr1, .int 0]))]) (w1 := [(xro, .inr (1, [.int 80, .ref xr2, .int 0]))]) hP hD [2] [0, 1] rfl rfl (by decide) (by decide) hk1 hFc hP1 hD1
    have hK := (hK.sub (tys' := []) [] rfl).app hK1
    generalize H1 = H at hP hS ⊢
    have hP : va_P (dC, dI) kxCl [(x, .inr (5, [.ref xe, .ref xn, .int 0, .int 1, .int 1, .ref xso, .ref xro, .int 1, .ref xga, .ref xlo, .int (-1), .ref xse, .ref xwa, .ref xst, .ref xou, .ref xdr])), (xso, .inr (1, [.int 80, .ref xr1, .int 0])), (xro, .inr (1, [.int 80, .ref xr2, .int 0]))] H := hP
    have hD : va_D A [(x, .inr (5, [.ref xe, .ref xn, .int 0, .int 1, .int 1, .ref xso, .ref xro, .int 1, .ref xga, .ref xlo, .int (-1), .ref xse, .ref xwa, .ref xst, .ref xou, .ref xdr])), (xso, .inr (1, [.int 80, .ref xr1, .int 0])), (xro, .inr (1, [.int 80, .ref xr2, .int 0]))] := hD
    have hK : va_K (dC, dI) kxCl [] s := hK
    subst hw_5
    refine lv_icmp_lt (tgt := 27) hx hb dX5_row_16 (by decide) (fun c_6 => ?_) (fun c_6 => ?_)
    · exact absurd (kz_nn c_3) (Int32.not_le.mpr c_6)
    · skip
      exact kx_thr_IOB hx hb hlf hown hG hZ hS (hl.1.trans hml.symm) dX5_row_19 dX5_row_22 dX5_row_23 dX5_row_26 htab (Nat.le_of_ble_eq_true rfl) (Nat.le_of_ble_eq_true rfl) (Nat.le_of_ble_eq_true rfl) (Nat.le_of_ble_eq_true rfl) hlocks (fun t hvm hF => ⟨(), trivial, rfl, hF⟩) hS.2.2 (by omega) (by omega)
set_option maxHeartbeats 4000000 in
set_option maxRecDepth 100000 in
theorem c_locator (l : Launch) (hlf : l.stackTraces = false) (dC : Nat → ClassId) (dI : Nat → Nat → Nat) (x : Nat) (xe : Nat) (xn : Nat) (xso : Nat) (xro : Nat) (xga : Nat) (xlo : Nat) (xse : Nat) (xwa : Nat) (xst : Nat) (xou : Nat) (xdr : Nat) (xr1 : Nat) (xr2 : Nat) (p0 : Int32) (p1 : Int32) (p2 : Int32) (sz : Nat) : vx_Met l yX5_locator [.code yX5_locator cX5_locator 5 (some .int)] ({ frames := 7, cells := 1, slots := 6, locals := 100 }) (va_Pc [.ref x, .int p0, .int p1, .int p2] (kx_Pre dC dI [(x, .inr (5, [.ref xe, .ref xn, .int 0, .int 1, .int 1, .ref xso, .ref xro, .int 0, .ref xga, .ref xlo, .int (-1), .ref xse, .ref xwa, .ref xst, .ref xou, .ref xdr])), (xso, .inr (1, [.int 80, .ref xr1, .int 0])), (xro, .inr (1, [.int 80, .ref xr2, .int 0]))] [] sz)) (va_Qi (fun (r : Int32) (u : Unit) => match u with | _ => False) (fun (u : Unit) (t : State) => match u with | _ => kx_At dC dI (va_A [(x, .inr (5, [.ref xe, .ref xn, .int 0, .int 1, .int 1, .ref xso, .ref xro, .int 0, .ref xga, .ref xlo, .int (-1), .ref xse, .ref xwa, .ref xst, .ref xou, .ref xdr])), (xso, .inr (1, [.int 80, .ref xr1, .int 0])), (xro, .inr (1, [.int 80, .ref xr2, .int 0]))] sz) [] [] t) (va_A [(x, .inr (5, [.ref xe, .ref xn, .int 0, .int 1, .int 1, .ref xso, .ref xro, .int 0, .ref xga, .ref xlo, .int (-1), .ref xse, .ref xwa, .ref xst, .ref xou, .ref xdr])), (xso, .inr (1, [.int 80, .ref xr1, .int 0])), (xro, .inr (1, [.int 80, .ref xr2, .int 0]))] sz)) (vx_X (fun _ : Unit => True) (fun E _ _ => E = "java/lang/IndexOutOfBoundsException") (va_A [(x, .inr (5, [.ref xe, .ref xn, .int 0, .int 1, .int 1, .ref xso, .ref xro, .int 0, .ref xga, .ref xlo, .int (-1), .ref xse, .ref xwa, .ref xst, .ref xou, .ref xdr])), (xso, .inr (1, [.int 80, .ref xr1, .int 0])), (xro, .inr (1, [.int 80, .ref xr2, .int 0]))] sz)) 1 6 (va_A [(x, .inr (5, [.ref xe, .ref xn, .int 0, .int 1, .int 1, .ref xso, .ref xro, .int 0, .ref xga, .ref xlo, .int (-1), .ref xse, .ref xwa, .ref xst, .ref xou, .ref xdr])), (xso, .inr (1, [.int 80, .ref xr1, .int 0])), (xro, .inr (1, [.int 80, .ref xr2, .int 0]))] sz) := by
  refine vx_ofW (cc := cX5_locator) (maxL := 5) (ret := (some .int)) (by decide) rfl ?_
  intro p e s m args below meth c s₁ B hml htab hv
  obtain ⟨rfl, hsz, hP, hK, hD0, hG, hZ⟩ := hv
  have hx := B.exec
  have hb := B.bytes
  have hr := B.returns
  have hts := kx_hts (a := #[.ref x, .int p0, .int p1, .int p2]) hG
  have hown : s.vm.findClass RX5 = some m.cls := findClass_of_methodNamed B.named
  have hlocks := B.notSynchronized
  subst hsz
  have hD := hD0.self (sz := s.heap.size)
  generalize hAe : va_A [(x, .inr (5, [.ref xe, .ref xn, .int 0, .int 1, .int 1, .ref xso, .ref xro, .int 0, .ref xga, .ref xlo, .int (-1), .ref xse, .ref xwa, .ref xst, .ref xou, .ref xdr])), (xso, .inr (1, [.int 80, .ref xr1, .int 0])), (xro, .inr (1, [.int 80, .ref xr2, .int 0]))] s.heap.size = A at hD hZ ⊢
  have hA : ∀ q : Nat, s.heap.size ≤ q → A q := fun q h => by rw [← hAe]; exact Or.inr h
  have hS : va_S A s.heap s.heap [] := va_S.rf
  have hP : va_P (dC, dI) kxCl [(x, .inr (5, [.ref xe, .ref xn, .int 0, .int 1, .int 1, .ref xso, .ref xro, .int 0, .ref xga, .ref xlo, .int (-1), .ref xse, .ref xwa, .ref xst, .ref xou, .ref xdr])), (xso, .inr (1, [.int 80, .ref xr1, .int 0])), (xro, .inr (1, [.int 80, .ref xr2, .int 0]))] s.heap := hP
  have hl := lv_entry ([.ref x, .int p0, .int p1, .int p2]) (n := 5) (Nat.le_of_ble_eq_true rfl)
  rw [lg_entry_eq]
  generalize (lg_sl ([.ref x, .int p0, .int p1, .int p2]) ++ List.replicate (5 - (lg_sl ([.ref x, .int p0, .int p1, .int p2])).length) Slot.unset).toArray = ls at hl ⊢
  have hl : lv_has ls 5 [(0, .ref x), (1, .int p0), (2, .int p1), (3, .int p2)] := hl
  refine lv_aload_n hx hb dX5_locator_0 rfl (lv_at hl 0 rfl) ?_
  have hPc := hP.sub (ws' := [(x, .inr (5, [.ref xe, .ref xn, .int 0, .int 1, .int 1, .ref xso, .ref xro, .int 0, .ref xga, .ref xlo, .int (-1), .ref xse, .ref xwa, .ref xst, .ref xou, .ref xdr])), (xso, .inr (1, [.int 80, .ref xr1, .int 0])), (xro, .inr (1, [.int 80, .ref xr2, .int 0]))]) [0, 1, 2] rfl
  have hDc := hD.sub (ws' := [(x, .inr (5, [.ref xe, .ref xn, .int 0, .int 1, .int 1, .ref xso, .ref xro, .int 0, .ref xga, .ref xlo, .int (-1), .ref xse, .ref xwa, .ref xst, .ref xou, .ref xdr])), (xso, .inr (1, [.int 80, .ref xr1, .int 0])), (xro, .inr (1, [.int 80, .ref xr2, .int 0]))]) [0, 1, 2] (by decide) rfl
  have hKc := hK.sub (tys' := []) [] rfl
  have hFc := va_free (wc := [(x, .inr (5, [.ref xe, .ref xn, .int 0, .int 1, .int 1, .ref xso, .ref xro, .int 0, .ref xga, .ref xlo, .int (-1), .ref xse, .ref xwa, .ref xst, .ref xou, .ref xdr])), (xso, .inr (1, [.int 80, .ref xr1, .int 0])), (xro, .inr (1, [.int 80, .ref xr2, .int 0]))]) hD hS hA [0, 1, 2] rfl
  refine va_callv (va_runV (As := []) (rest := []) ⟨hx, hb, hml, hown, hts⟩ (c_findRows l hlf dC dI x xe xn xso xro xga xlo xse xwa xst xou xdr xr1 xr2 s.heap.size ) (cwV 0 hts (kx_gV kq_126 kq_127 kq_128 kq_92 kq_129 rfl) rfl rfl rfl (by decide +kernel) ⟨Nat.le_of_ble_eq_true rfl, Nat.le_of_ble_eq_true rfl⟩) ⟨kx_blind, va_recv hKc hPc (ci := 5) (q0 := 0) rfl rfl, kx_give (ws := []) (tys := []) hPc hDc hKc hG hZ hS hFc⟩ rfl rfl hl.1 rfl (lv_room (Nat.le_of_ble_eq_true rfl)) dX5_locator_1 ⟨Nat.le_of_ble_eq_true rfl, Nat.le_of_ble_eq_true rfl⟩) hS (fun q _ h => hFc q h) hFc (fun u t H1 locs ht hvm hw_2 hB hz1 hk1 hS => ?_)
  obtain ⟨hP1, hK1, hD1⟩ := hB
  rw [ht] at hP1
  have hK1 := va_K.moved hvm.symm hK1
  try dsimp only at hw_2
  obtain ⟨hP, hD⟩ := va_join (wr := []) (w1 := [(x, .inr (5, [.ref xe, .ref xn, .int 0, .int 1, .int 1, .ref xso, .ref xro, .int 1, .ref xga, .ref xlo, .int (-1), .ref xse, .ref xwa, .ref xst, .ref xou, .ref xdr])), (xso, .inr (1, [.int 80, .ref xr1, .int 0])), (xro, .inr (1, [.int 80, .ref xr2, .int 0]))]) hP hD [0, 1, 2] [] rfl rfl (by decide) (by decide) hk1 hFc hP1 hD1
  have hK := (hK.sub (tys' := []) [] rfl).app hK1
  generalize H1 = H at hP hS ⊢
  have hP : va_P (dC, dI) kxCl [(x, .inr (5, [.ref xe, .ref xn, .int 0, .int 1, .int 1, .ref xso, .ref xro, .int 1, .ref xga, .ref xlo, .int (-1), .ref xse, .ref xwa, .ref xst, .ref xou, .ref xdr])), (xso, .inr (1, [.int 80, .ref xr1, .int 0])), (xro, .inr (1, [.int 80, .ref xr2, .int 0]))] H := hP
  have hD : va_D A [(x, .inr (5, [.ref xe, .ref xn, .int 0, .int 1, .int 1, .ref xso, .ref xro, .int 1, .ref xga, .ref xlo, .int (-1), .ref xse, .ref xwa, .ref xst, .ref xou, .ref xdr])), (xso, .inr (1, [.int 80, .ref xr1, .int 0])), (xro, .inr (1, [.int 80, .ref xr2, .int 0]))] := hD
  have hK : va_K (dC, dI) kxCl [] s := hK
  refine lv_iload_n hx hb dX5_locator_4 rfl (lv_at hl 1 rfl) ?_
  refine lv_if_lt (tgt := 19) hx hb dX5_locator_5 (by decide) (fun c_3 => ?_) (fun c_3 => ?_)
  · skip
    exact kx_thr_IOB hx hb hlf hown hG hZ hS (hl.1.trans hml.symm) dX5_locator_19 dX5_locator_22 dX5_locator_23 dX5_locator_26 htab (Nat.le_of_ble_eq_true rfl) (Nat.le_of_ble_eq_true rfl) (Nat.le_of_ble_eq_true rfl) (Nat.le_of_ble_eq_true rfl) hlocks (fun t hvm hF => ⟨(), trivial, rfl, hF⟩) hS.2.2 (by omega) (by omega)
  · skip
    refine lv_iload_n hx hb dX5_locator_8 rfl (lv_at hl 1 rfl) ?_
    refine lv_aload_n hx hb dX5_locator_9 rfl (lv_at hl 0 rfl) ?_
    refine va_get (D := (dC, dI)) (ci := 5) (v := .ref xro) (C := RX5) (T := TX5) (N := 16) hx hb hts kt_X5 hown hK hP 0 rfl rfl 6 (by decide) (kx_word hG kq_65 rfl) (fun _ h9 => h9) rfl dX5_locator_10 ?_
    have hPc := hP.sub (ws' := [(xro, .inr (1, [.int 80, .ref xr2, .int 0]))]) [2] rfl
    have hDc := hD.sub (ws' := [(xro, .inr (1, [.int 80, .ref xr2, .int 0]))]) [2] (by decide) rfl
    have hKc := hK.sub (tys' := []) [] rfl
    have hFc := va_free (wc := [(xro, .inr (1, [.int 80, .ref xr2, .int 0]))]) hD hS hA [2] rfl
    refine va_calli (va_runV (As := []) (rest := [.int p0]) ⟨hx, hb, hml, hown, hts⟩ (c_Ints_size l hlf dC dI xro 80 xr2 0 H.size ) (cwV 0 hts (kx_gV kq_114 kq_115 kq_116 kq_21 kq_117 rfl) rfl rfl rfl (by decide +kernel) ⟨Nat.le_of_ble_eq_true rfl, Nat.le_of_ble_eq_true rfl⟩) ⟨kx_blind, va_recv hKc hPc (ci := 1) (q0 := 0) rfl rfl, kx_give (ws := []) (tys := []) hPc hDc hKc hG hZ hS hFc⟩ rfl rfl hl.1 rfl (lv_room (Nat.le_of_ble_eq_true rfl)) dX5_locator_13 ⟨Nat.le_of_ble_eq_true rfl, Nat.le_of_ble_eq_true rfl⟩) hS (fun q _ h => hFc q h) hFc (fun r_4 u t H1 locs ht hvm hw_5 hB hz1 hk1 hS => ?_)
    obtain ⟨hP1, hK1, hD1⟩ := hB
    rw [ht] at hP1
    have hK1 := va_K.moved hvm.symm hK1
    try dsimp only at hw_5
    obtain ⟨hP, hD⟩ := va_join (wr := [(x, .inr (5, [.ref xe, .ref xn, .int 0, .int 1, .int 1, .ref xso, .ref xro, .int 1, .ref xga, .ref xlo, .int (-1), .ref xse, .ref xwa, .ref xst, .ref xou, .ref xdr])), (xso, .inr (1, [.int 80, .ref xr1, .int 0]))]) (w1 := [(xro, .inr (1, [.int 80, .ref xr2, .int 0]))]) hP hD [2] [0, 1] rfl rfl (by decide) (by decide) hk1 hFc hP1 hD1
    have hK := (hK.sub (tys' := []) [] rfl).app hK1
    generalize H1 = H at hP hS ⊢
    have hP : va_P (dC, dI) kxCl [(x, .inr (5, [.ref xe, .ref xn, .int 0, .int 1, .int 1, .ref xso, .ref xro, .int 1, .ref xga, .ref xlo, .int (-1), .ref xse, .ref xwa, .ref xst, .ref xou, .ref xdr])), (xso, .inr (1, [.int 80, .ref xr1, .int 0])), (xro, .inr (1, [.int 80, .ref xr2, .int 0]))] H := hP
    have hD : va_D A [(x, .inr (5, [.ref xe, .ref xn, .int 0, .int 1, .int 1, .ref xso, .ref xro, .int 1, .ref xga, .ref xlo, .int (-1), .ref xse, .ref xwa, .ref xst, .ref xou, .ref xdr])), (xso, .inr (1, [.int 80, .ref xr1, .int 0])), (xro, .inr (1, [.int 80, .ref xr2, .int 0]))] := hD
    have hK : va_K (dC, dI) kxCl [] s := hK
    subst hw_5
    refine lv_icmp_lt (tgt := 27) hx hb dX5_locator_16 (by decide) (fun c_6 => ?_) (fun c_6 => ?_)
    · exact absurd (kz_nn c_3) (Int32.not_le.mpr c_6)
    · skip
      exact kx_thr_IOB hx hb hlf hown hG hZ hS (hl.1.trans hml.symm) dX5_locator_19 dX5_locator_22 dX5_locator_23 dX5_locator_26 htab (Nat.le_of_ble_eq_true rfl) (Nat.le_of_ble_eq_true rfl) (Nat.le_of_ble_eq_true rfl) (Nat.le_of_ble_eq_true rfl) hlocks (fun t hvm hF => ⟨(), trivial, rfl, hF⟩) hS.2.2 (by omega) (by omega)
set_option maxHeartbeats 4000000 in
set_option maxRecDepth 100000 in
theorem c_countByRows (l : Launch) (hlf : l.stackTraces = false) (dC : Nat → ClassId) (dI : Nat → Nat → Nat) (x : Nat) (xe : Nat) (xn : Nat) (xso : Nat) (xro : Nat) (xga : Nat) (xlo : Nat) (xse : Nat) (xwa : Nat) (xst : Nat) (xou : Nat) (xdr : Nat) (dig : Int32) (wor : Int32) (kn : Int32) (lof : Int32) (sz : Nat) : Met l yX5_countByRows [.code yX5_countByRows cX5_countByRows 4 none] ({ frames := 0, cells := 0, slots := 0, locals := 0 }) (va_Pc [.ref x] (kx_Pre dC dI [(x, .inr (5, [.ref xe, .ref xn, .int 0, .int dig, .int wor, .ref xso, .ref xro, .int kn, .ref xga, .ref xlo, .int lof, .ref xse, .ref xwa, .ref xst, .ref xou, .ref xdr]))] [] sz)) (va_Qv (fun u : Unit => match u with | _ => True) (fun (u : Unit) (t : State) => match u with | _ => kx_At dC dI (va_A [(x, .inr (5, [.ref xe, .ref xn, .int 0, .int dig, .int wor, .ref xso, .ref xro, .int kn, .ref xga, .ref xlo, .int lof, .ref xse, .ref xwa, .ref xst, .ref xou, .ref xdr]))] sz) [(x, .inr (5, [.ref xe, .ref xn, .int 0, .int dig, .int wor, .ref xso, .ref xro, .int kn, .ref xga, .ref xlo, .int lof, .ref xse, .ref xwa, .ref xst, .ref xou, .ref xdr]))] [] t) (va_A [(x, .inr (5, [.ref xe, .ref xn, .int 0, .int dig, .int wor, .ref xso, .ref xro, .int kn, .ref xga, .ref xlo, .int lof, .ref xse, .ref xwa, .ref xst, .ref xou, .ref xdr]))] sz)) 0 0 (va_A [(x, .inr (5, [.ref xe, .ref xn, .int 0, .int dig, .int wor, .ref xso, .ref xro, .int kn, .ref xga, .ref xlo, .int lof, .ref xse, .ref xwa, .ref xst, .ref xou, .ref xdr]))] sz) := by
  refine Met.ofW (cc := cX5_countByRows) (maxL := 4) (ret := none) (by decide) rfl ?_
  intro p e s m args below meth c s₁ B hml hv
  obtain ⟨rfl, hsz, hP, hK, hD0, hG, hZ⟩ := hv
  have hx := B.exec
  have hb := B.bytes
  have hr := B.returns
  have hts := kx_hts (a := #[.ref x]) hG
  have hown : s.vm.findClass RX5 = some m.cls := findClass_of_methodNamed B.named
  have hlocks := B.notSynchronized
  subst hsz
  have hD := hD0.self (sz := s.heap.size)
  generalize hAe : va_A [(x, .inr (5, [.ref xe, .ref xn, .int 0, .int dig, .int wor, .ref xso, .ref xro, .int kn, .ref xga, .ref xlo, .int lof, .ref xse, .ref xwa, .ref xst, .ref xou, .ref xdr]))] s.heap.size = A at hD hZ ⊢
  have hA : ∀ q : Nat, s.heap.size ≤ q → A q := fun q h => by rw [← hAe]; exact Or.inr h
  have hS : va_S A s.heap s.heap [] := va_S.rf
  have hP : va_P (dC, dI) kxCl [(x, .inr (5, [.ref xe, .ref xn, .int 0, .int dig, .int wor, .ref xso, .ref xro, .int kn, .ref xga, .ref xlo, .int lof, .ref xse, .ref xwa, .ref xst, .ref xou, .ref xdr]))] s.heap := hP
  have hl := lv_entry ([.ref x]) (n := 4) (Nat.le_of_ble_eq_true rfl)
  rw [lg_entry_eq]
  generalize (lg_sl ([.ref x]) ++ List.replicate (4 - (lg_sl ([.ref x])).length) Slot.unset).toArray = ls at hl ⊢
  have hl : lv_has ls 4 [(0, .ref x)] := hl
  refine lv_iconst (v := 0) hx hb dX5_countByRows_0 (by decide) ?_
  refine lv_istore_n (lv' := [(1, .int 0), (0, .ref x)]) hx hb dX5_countByRows_1 rfl hl (by decide) rfl (fun ls hl => ?_)
  refine lv_iload_n hx hb dX5_countByRows_2 rfl (lv_at hl 0 rfl) ?_
  refine lv_aload_n hx hb dX5_countByRows_3 rfl (lv_at hl 1 rfl) ?_
  refine va_get (D := (dC, dI)) (ci := 5) (v := .int 0) (C := RX5) (T := TX5) (N := 16) hx hb hts kt_X5 hown hK hP 0 rfl rfl 2 (by decide) (kx_word hG kq_59 rfl) (fun _ h9 => h9) rfl dX5_countByRows_4 ?_
  refine lv_icmp_ge (tgt := 24) hx hb dX5_countByRows_7 (by decide) (fun c_1 => ?_) (fun c_1 => ?_)
  · skip
    refine lv_iconst (v := 0) hx hb dX5_countByRows_24 (by decide) ?_
    refine lv_istore_n (lv' := [(1, .int 0), (0, .ref x)]) hx hb dX5_countByRows_25 rfl hl (by decide) rfl (fun ls hl => ?_)
    refine lv_iload_n hx hb dX5_countByRows_26 rfl (lv_at hl 0 rfl) ?_
    refine lv_aload_n hx hb dX5_countByRows_27 rfl (lv_at hl 1 rfl) ?_
    refine va_get (D := (dC, dI)) (ci := 5) (v := .int 0) (C := RX5) (T := TX5) (N := 16) hx hb hts kt_X5 hown hK hP 0 rfl rfl 2 (by decide) (kx_word hG kq_59 rfl) (fun _ h9 => h9) rfl dX5_countByRows_28 ?_
    refine lv_icmp_ge (tgt := 119) hx hb dX5_countByRows_31 (by decide) (fun c_2 => ?_) (fun c_2 => ?_)
    · skip
      have hP9 := hP.sub (ws' := [(x, .inr (5, [.ref xe, .ref xn, .int 0, .int dig, .int wor, .ref xso, .ref xro, .int kn, .ref xga, .ref xlo, .int lof, .ref xse, .ref xwa, .ref xst, .ref xou, .ref xdr]))]) [0] rfl
      have hD9 := hD.sub (ws' := [(x, .inr (5, [.ref xe, .ref xn, .int 0, .int dig, .int wor, .ref xso, .ref xro, .int kn, .ref xga, .ref xlo, .int lof, .ref xse, .ref xwa, .ref xst, .ref xou, .ref xdr]))]) [0] (by decide) rfl
      have hK9 := hK.sub (tys' := []) [] rfl
      exact W.vret hx hb hr (fun t ht hW => ⟨⟨(), rfl, trivial, by rw [ht]; exact hP9, va_K.moved hW.alike hK9, hD9⟩, hS.F ht⟩) hS.2.2 dX5_countByRows_119
    · exact absurd c_2 (by decide)
  · exact absurd c_1 (by decide)
set_option maxHeartbeats 4000000 in
set_option maxRecDepth 100000 in
theorem c_told (l : Launch) (hlf : l.stackTraces = false) (dC : Nat → ClassId) (dI : Nat → Nat → Nat) (x : Nat) (xe : Nat) (xn : Nat) (xso : Nat) (xro : Nat) (xga : Nat) (xlo : Nat) (xse : Nat) (xwa : Nat) (xst : Nat) (xou : Nat) (xdr : Nat) (xr1 : Nat) (xr2 : Nat) (p0 : Int32) (p1 : Int32) (sz : Nat) : vx_Met l yX5_told [.code yX5_told cX5_told 4 (some .int)] ({ frames := 7, cells := 1, slots := 6, locals := 100 }) (va_Pc [.ref x, .int p0, .int p1] (kx_Pre dC dI [(x, .inr (5, [.ref xe, .ref xn, .int 0, .int 1, .int 1, .ref xso, .ref xro, .int 0, .ref xga, .ref xlo, .int (-1), .ref xse, .ref xwa, .ref xst, .ref xou, .ref xdr])), (xso, .inr (1, [.int 80, .ref xr1, .int 0])), (xro, .inr (1, [.int 80, .ref xr2, .int 0])), (xwa, .inr (4, [.int (-1), .int 0, .int 0, .int 0, .int 0]))] [] sz)) (va_Qi (fun (r : Int32) (u : Unit) => match u with | _ => r = 0 ∧ ek_told p0 = 0) (fun (u : Unit) (t : State) => match u with | _ => kx_At dC dI (va_A [(x, .inr (5, [.ref xe, .ref xn, .int 0, .int 1, .int 1, .ref xso, .ref xro, .int 0, .ref xga, .ref xlo, .int (-1), .ref xse, .ref xwa, .ref xst, .ref xou, .ref xdr])), (xso, .inr (1, [.int 80, .ref xr1, .int 0])), (xro, .inr (1, [.int 80, .ref xr2, .int 0])), (xwa, .inr (4, [.int (-1), .int 0, .int 0, .int 0, .int 0]))] sz) [] [] t) (va_A [(x, .inr (5, [.ref xe, .ref xn, .int 0, .int 1, .int 1, .ref xso, .ref xro, .int 0, .ref xga, .ref xlo, .int (-1), .ref xse, .ref xwa, .ref xst, .ref xou, .ref xdr])), (xso, .inr (1, [.int 80, .ref xr1, .int 0])), (xro, .inr (1, [.int 80, .ref xr2, .int 0])), (xwa, .inr (4, [.int (-1), .int 0, .int 0, .int 0, .int 0]))] sz)) (vx_X (fun _ : Unit => True) (fun E _ _ => E = "java/lang/IndexOutOfBoundsException" ∧ ek_told p0 = 1) (va_A [(x, .inr (5, [.ref xe, .ref xn, .int 0, .int 1, .int 1, .ref xso, .ref xro, .int 0, .ref xga, .ref xlo, .int (-1), .ref xse, .ref xwa, .ref xst, .ref xou, .ref xdr])), (xso, .inr (1, [.int 80, .ref xr1, .int 0])), (xro, .inr (1, [.int 80, .ref xr2, .int 0])), (xwa, .inr (4, [.int (-1), .int 0, .int 0, .int 0, .int 0]))] sz)) 1 6 (va_A [(x, .inr (5, [.ref xe, .ref xn, .int 0, .int 1, .int 1, .ref xso, .ref xro, .int 0, .ref xga, .ref xlo, .int (-1), .ref xse, .ref xwa, .ref xst, .ref xou, .ref xdr])), (xso, .inr (1, [.int 80, .ref xr1, .int 0])), (xro, .inr (1, [.int 80, .ref xr2, .int 0])), (xwa, .inr (4, [.int (-1), .int 0, .int 0, .int 0, .int 0]))] sz) := by
  refine vx_ofW (cc := cX5_told) (maxL := 4) (ret := (some .int)) (by decide) rfl ?_
  intro p e s m args below meth c s₁ B hml htab hv
  obtain ⟨rfl, hsz, hP, hK, hD0, hG, hZ⟩ := hv
  have hx := B.exec
  have hb := B.bytes
  have hr := B.returns
  have hts := kx_hts (a := #[.ref x, .int p0, .int p1]) hG
  have hown : s.vm.findClass RX5 = some m.cls := findClass_of_methodNamed B.named
  have hlocks := B.notSynchronized
  subst hsz
  have hD := hD0.self (sz := s.heap.size)
  generalize hAe : va_A [(x, .inr (5, [.ref xe, .ref xn, .int 0, .int 1, .int 1, .ref xso, .ref xro, .int 0, .ref xga, .ref xlo, .int (-1), .ref xse, .ref xwa, .ref xst, .ref xou, .ref xdr])), (xso, .inr (1, [.int 80, .ref xr1, .int 0])), (xro, .inr (1, [.int 80, .ref xr2, .int 0])), (xwa, .inr (4, [.int (-1), .int 0, .int 0, .int 0, .int 0]))] s.heap.size = A at hD hZ ⊢
  have hA : ∀ q : Nat, s.heap.size ≤ q → A q := fun q h => by rw [← hAe]; exact Or.inr h
  have hS : va_S A s.heap s.heap [] := va_S.rf
  have hP : va_P (dC, dI) kxCl [(x, .inr (5, [.ref xe, .ref xn, .int 0, .int 1, .int 1, .ref xso, .ref xro, .int 0, .ref xga, .ref xlo, .int (-1), .ref xse, .ref xwa, .ref xst, .ref xou, .ref xdr])), (xso, .inr (1, [.int 80, .ref xr1, .int 0])), (xro, .inr (1, [.int 80, .ref xr2, .int 0])), (xwa, .inr (4, [.int (-1), .int 0, .int 0, .int 0, .int 0]))] s.heap := hP
  have hl := lv_entry ([.ref x, .int p0, .int p1]) (n := 4) (Nat.le_of_ble_eq_true rfl)
  rw [lg_entry_eq]
  generalize (lg_sl ([.ref x, .int p0, .int p1]) ++ List.replicate (4 - (lg_sl ([.ref x, .int p0, .int p1])).length) Slot.unset).toArray = ls at hl ⊢
  have hl : lv_has ls 4 [(0, .ref x), (1, .int p0), (2, .int p1)] := hl
  refine lv_aload_n hx hb dX5_told_0 rfl (lv_at hl 0 rfl) ?_
  have hPc := hP.sub (ws' := [(x, .inr (5, [.ref xe, .ref xn, .int 0, .int 1, .int 1, .ref xso, .ref xro, .int 0, .ref xga, .ref xlo, .int (-1), .ref xse, .ref xwa, .ref xst, .ref xou, .ref xdr])), (xso, .inr (1, [.int 80, .ref xr1, .int 0])), (xro, .inr (1, [.int 80, .ref xr2, .int 0]))]) [0, 1, 2] rfl
  have hDc := hD.sub (ws' := [(x, .inr (5, [.ref xe, .ref xn, .int 0, .int 1, .int 1, .ref xso, .ref xro, .int 0, .ref xga, .ref xlo, .int (-1), .ref xse, .ref xwa, .ref xst, .ref xou, .ref xdr])), (xso, .inr (1, [.int 80, .ref xr1, .int 0])), (xro, .inr (1, [.int 80, .ref xr2, .int 0]))]) [0, 1, 2] (by decide) rfl
  have hKc := hK.sub (tys' := []) [] rfl
  have hFc := va_free (wc := [(x, .inr (5, [.ref xe, .ref xn, .int 0, .int 1, .int 1, .ref xso, .ref xro, .int 0, .ref xga, .ref xlo, .int (-1), .ref xse, .ref xwa, .ref xst, .ref xou, .ref xdr])), (xso, .inr (1, [.int 80, .ref xr1, .int 0])), (xro, .inr (1, [.int 80, .ref xr2, .int 0]))]) hD hS hA [0, 1, 2] rfl
  refine va_callv (va_runV (As := []) (rest := []) ⟨hx, hb, hml, hown, hts⟩ (c_findRows l hlf dC dI x xe xn xso xro xga xlo xse xwa xst xou xdr xr1 xr2 s.heap.size ) (cwV 0 hts (kx_gV kq_126 kq_127 kq_128 kq_92 kq_129 rfl) rfl rfl rfl (by decide +kernel) ⟨Nat.le_of_ble_eq_true rfl, Nat.le_of_ble_eq_true rfl⟩) ⟨kx_blind, va_recv hKc hPc (ci := 5) (q0 := 0) rfl rfl, kx_give (ws := []) (tys := []) hPc hDc hKc hG hZ hS hFc⟩ rfl rfl hl.1 rfl (lv_room (Nat.le_of_ble_eq_true rfl)) dX5_told_1 ⟨Nat.le_of_ble_eq_true rfl, Nat.le_of_ble_eq_true rfl⟩) hS (fun q _ h => hFc q h) hFc (fun u t H1 locs ht hvm hw_2 hB hz1 hk1 hS => ?_)
  obtain ⟨hP1, hK1, hD1⟩ := hB
  rw [ht] at hP1
  have hK1 := va_K.moved hvm.symm hK1
  try dsimp only at hw_2
  obtain ⟨hP, hD⟩ := va_join (wr := [(xwa, .inr (4, [.int (-1), .int 0, .int 0, .int 0, .int 0]))]) (w1 := [(x, .inr (5, [.ref xe, .ref xn, .int 0, .int 1, .int 1, .ref xso, .ref xro, .int 1, .ref xga, .ref xlo, .int (-1), .ref xse, .ref xwa, .ref xst, .ref xou, .ref xdr])), (xso, .inr (1, [.int 80, .ref xr1, .int 0])), (xro, .inr (1, [.int 80, .ref xr2, .int 0]))]) hP hD [0, 1, 2] [3] rfl rfl (by decide) (by decide) hk1 hFc hP1 hD1
  have hK := (hK.sub (tys' := []) [] rfl).app hK1
  generalize H1 = H at hP hS ⊢
  have hP : va_P (dC, dI) kxCl [(xwa, .inr (4, [.int (-1), .int 0, .int 0, .int 0, .int 0])), (x, .inr (5, [.ref xe, .ref xn, .int 0, .int 1, .int 1, .ref xso, .ref xro, .int 1, .ref xga, .ref xlo, .int (-1), .ref xse, .ref xwa, .ref xst, .ref xou, .ref xdr])), (xso, .inr (1, [.int 80, .ref xr1, .int 0])), (xro, .inr (1, [.int 80, .ref xr2, .int 0]))] H := hP
  have hD : va_D A [(xwa, .inr (4, [.int (-1), .int 0, .int 0, .int 0, .int 0])), (x, .inr (5, [.ref xe, .ref xn, .int 0, .int 1, .int 1, .ref xso, .ref xro, .int 1, .ref xga, .ref xlo, .int (-1), .ref xse, .ref xwa, .ref xst, .ref xou, .ref xdr])), (xso, .inr (1, [.int 80, .ref xr1, .int 0])), (xro, .inr (1, [.int 80, .ref xr2, .int 0]))] := hD
  have hK : va_K (dC, dI) kxCl [] s := hK
  refine lv_aload_n hx hb dX5_told_4 rfl (lv_at hl 0 rfl) ?_
  have hPc := hP.sub (ws' := [(x, .inr (5, [.ref xe, .ref xn, .int 0, .int 1, .int 1, .ref xso, .ref xro, .int 1, .ref xga, .ref xlo, .int (-1), .ref xse, .ref xwa, .ref xst, .ref xou, .ref xdr]))]) [1] rfl
  have hDc := hD.sub (ws' := [(x, .inr (5, [.ref xe, .ref xn, .int 0, .int 1, .int 1, .ref xso, .ref xro, .int 1, .ref xga, .ref xlo, .int (-1), .ref xse, .ref xwa, .ref xst, .ref xou, .ref xdr]))]) [1] (by decide) rfl
  have hKc := hK.sub (tys' := []) [] rfl
  have hFc := va_free (wc := [(x, .inr (5, [.ref xe, .ref xn, .int 0, .int 1, .int 1, .ref xso, .ref xro, .int 1, .ref xga, .ref xlo, .int (-1), .ref xse, .ref xwa, .ref xst, .ref xou, .ref xdr]))]) hD hS hA [1] rfl
  refine va_callv (va_runV (As := []) (rest := []) ⟨hx, hb, hml, hown, hts⟩ (c_countByRows l hlf dC dI x xe xn xso xro xga xlo xse xwa xst xou xdr 1 1 1 (-1) H.size ) (cwV 0 hts (kx_gV kq_130 kq_131 kq_132 kq_92 kq_133 rfl) rfl rfl rfl (by decide +kernel) ⟨Nat.le_of_ble_eq_true rfl, Nat.le_of_ble_eq_true rfl⟩) ⟨kx_blind, va_recv hKc hPc (ci := 5) (q0 := 0) rfl rfl, kx_give (ws := []) (tys := []) hPc hDc hKc hG hZ hS hFc⟩ rfl rfl hl.1 rfl (lv_room (Nat.le_of_ble_eq_true rfl)) dX5_told_5 ⟨Nat.le_of_ble_eq_true rfl, Nat.le_of_ble_eq_true rfl⟩) hS (fun q _ h => hFc q h) hFc (fun u t H1 locs ht hvm hw_4 hB hz1 hk1 hS => ?_)
  obtain ⟨hP1, hK1, hD1⟩ := hB
  rw [ht] at hP1
  have hK1 := va_K.moved hvm.symm hK1
  try dsimp only at hw_4
  obtain ⟨hP, hD⟩ := va_join (wr := [(xwa, .inr (4, [.int (-1), .int 0, .int 0, .int 0, .int 0])), (xso, .inr (1, [.int 80, .ref xr1, .int 0])), (xro, .inr (1, [.int 80, .ref xr2, .int 0]))]) (w1 := [(x, .inr (5, [.ref xe, .ref xn, .int 0, .int 1, .int 1, .ref xso, .ref xro, .int 1, .ref xga, .ref xlo, .int (-1), .ref xse, .ref xwa, .ref xst, .ref xou, .ref xdr]))]) hP hD [1] [0, 2, 3] rfl rfl (by decide) (by decide) hk1 hFc hP1 hD1
  have hK := (hK.sub (tys' := []) [] rfl).app hK1
  generalize H1 = H at hP hS ⊢
  have hP : va_P (dC, dI) kxCl [(xwa, .inr (4, [.int (-1), .int 0, .int 0, .int 0, .int 0])), (xso, .inr (1, [.int 80, .ref xr1, .int 0])), (xro, .inr (1, [.int 80, .ref xr2, .int 0])), (x, .inr (5, [.ref xe, .ref xn, .int 0, .int 1, .int 1, .ref xso, .ref xro, .int 1, .ref xga, .ref xlo, .int (-1), .ref xse, .ref xwa, .ref xst, .ref xou, .ref xdr]))] H := hP
  have hD : va_D A [(xwa, .inr (4, [.int (-1), .int 0, .int 0, .int 0, .int 0])), (xso, .inr (1, [.int 80, .ref xr1, .int 0])), (xro, .inr (1, [.int 80, .ref xr2, .int 0])), (x, .inr (5, [.ref xe, .ref xn, .int 0, .int 1, .int 1, .ref xso, .ref xro, .int 1, .ref xga, .ref xlo, .int (-1), .ref xse, .ref xwa, .ref xst, .ref xou, .ref xdr]))] := hD
  have hK : va_K (dC, dI) kxCl [] s := hK
  refine lv_aload_n hx hb dX5_told_8 rfl (lv_at hl 0 rfl) ?_
  refine va_get (D := (dC, dI)) (ci := 5) (v := .ref xwa) (C := RX5) (T := TX5) (N := 16) hx hb hts kt_X5 hown hK hP 3 rfl rfl 12 (by decide) (kx_word hG kq_79 rfl) (fun _ h9 => h9) rfl dX5_told_9 ?_
  refine lv_iload_n hx hb dX5_told_12 rfl (lv_at hl 1 rfl) ?_
  have hPc := hP.sub (ws' := [(xwa, .inr (4, [.int (-1), .int 0, .int 0, .int 0, .int 0]))]) [0] rfl
  have hDc := hD.sub (ws' := [(xwa, .inr (4, [.int (-1), .int 0, .int 0, .int 0, .int 0]))]) [0] (by decide) rfl
  have hKc := hK.sub (tys' := []) [] rfl
  have hFc := va_free (wc := [(xwa, .inr (4, [.int (-1), .int 0, .int 0, .int 0, .int 0]))]) hD hS hA [0] rfl
  refine va_callv (va_runV (As := [.int p0]) (rest := []) ⟨hx, hb, hml, hown, hts⟩ (c_Warnings_lookFor l hlf dC dI xwa p0 H.size ) (cwV 1 hts (kx_gV kq_134 kq_135 kq_136 kq_75 kq_137 rfl) rfl rfl rfl (by decide +kernel) ⟨Nat.le_of_ble_eq_true rfl, Nat.le_of_ble_eq_true rfl⟩) ⟨kx_blind, va_recv hKc hPc (ci := 4) (q0 := 0) rfl rfl, kx_give (ws := []) (tys := []) hPc hDc hKc hG hZ hS hFc⟩ rfl rfl hl.1 rfl (lv_room (Nat.le_of_ble_eq_true rfl)) dX5_told_13 ⟨Nat.le_of_ble_eq_true rfl, Nat.le_of_ble_eq_true rfl⟩) hS (fun q _ h => hFc q h) hFc (fun u t H1 locs ht hvm hw_6 hB hz1 hk1 hS => ?_)
  obtain ⟨hP1, hK1, hD1⟩ := hB
  rw [ht] at hP1
  have hK1 := va_K.moved hvm.symm hK1
  try dsimp only at hw_6
  obtain ⟨hP, hD⟩ := va_join (wr := [(xso, .inr (1, [.int 80, .ref xr1, .int 0])), (xro, .inr (1, [.int 80, .ref xr2, .int 0])), (x, .inr (5, [.ref xe, .ref xn, .int 0, .int 1, .int 1, .ref xso, .ref xro, .int 1, .ref xga, .ref xlo, .int (-1), .ref xse, .ref xwa, .ref xst, .ref xou, .ref xdr]))]) (w1 := [(xwa, .inr (4, [.int p0, .int 0, .int 0, .int 0, .int 0]))]) hP hD [0] [1, 2, 3] rfl rfl (by decide) (by decide) hk1 hFc hP1 hD1
  have hK := (hK.sub (tys' := []) [] rfl).app hK1
  generalize H1 = H at hP hS ⊢
  have hP : va_P (dC, dI) kxCl [(xso, .inr (1, [.int 80, .ref xr1, .int 0])), (xro, .inr (1, [.int 80, .ref xr2, .int 0])), (x, .inr (5, [.ref xe, .ref xn, .int 0, .int 1, .int 1, .ref xso, .ref xro, .int 1, .ref xga, .ref xlo, .int (-1), .ref xse, .ref xwa, .ref xst, .ref xou, .ref xdr])), (xwa, .inr (4, [.int p0, .int 0, .int 0, .int 0, .int 0]))] H := hP
  have hD : va_D A [(xso, .inr (1, [.int 80, .ref xr1, .int 0])), (xro, .inr (1, [.int 80, .ref xr2, .int 0])), (x, .inr (5, [.ref xe, .ref xn, .int 0, .int 1, .int 1, .ref xso, .ref xro, .int 1, .ref xga, .ref xlo, .int (-1), .ref xse, .ref xwa, .ref xst, .ref xou, .ref xdr])), (xwa, .inr (4, [.int p0, .int 0, .int 0, .int 0, .int 0]))] := hD
  have hK : va_K (dC, dI) kxCl [] s := hK
  refine lv_iconst (v := 0) hx hb dX5_told_16 (by decide) ?_
  refine lv_istore_n (lv' := [(3, .int 0), (0, .ref x), (1, .int p0), (2, .int p1)]) hx hb dX5_told_17 rfl hl (by decide) rfl (fun ls hl => ?_)
  refine lv_iload_n hx hb dX5_told_18 rfl (lv_at hl 0 rfl) ?_
  refine lv_aload_n hx hb dX5_told_19 rfl (lv_at hl 1 rfl) ?_
  refine va_get (D := (dC, dI)) (ci := 5) (v := .int 0) (C := RX5) (T := TX5) (N := 16) hx hb hts kt_X5 hown hK hP 2 rfl rfl 2 (by decide) (kx_word hG kq_59 rfl) (fun _ h9 => h9) rfl dX5_told_20 ?_
  refine lv_icmp_ge (tgt := 37) hx hb dX5_told_23 (by decide) (fun c_7 => ?_) (fun c_7 => ?_)
  · skip
    refine lv_iload_n hx hb dX5_told_37 rfl (lv_at hl 2 rfl) ?_
    refine lv_iconst (v := (-1)) hx hb dX5_told_38 (by decide) ?_
    refine lv_icmp_ne (tgt := 50) hx hb dX5_told_39 (by decide) (fun c_8 => ?_) (fun c_8 => ?_)
    · skip
      refine lv_iload_n hx hb dX5_told_50 rfl (lv_at hl 2 rfl) ?_
      refine lv_if_lt (tgt := 74) hx hb dX5_told_51 (by decide) (fun c_9 => ?_) (fun c_9 => ?_)
      · skip
        exact kx_thr_IOB hx hb hlf hown hG hZ hS (hl.1.trans hml.symm) dX5_told_74 dX5_told_77 dX5_told_78 dX5_told_81 htab (Nat.le_of_ble_eq_true rfl) (Nat.le_of_ble_eq_true rfl) (Nat.le_of_ble_eq_true rfl) (Nat.le_of_ble_eq_true rfl) hlocks (fun t hvm hF => ⟨(), trivial, ⟨rfl, ek_t1 c_8⟩, hF⟩) hS.2.2 (by omega) (by omega)
      · skip
        refine lv_iload_n hx hb dX5_told_54 rfl (lv_at hl 2 rfl) ?_
        refine lv_aload_n hx hb dX5_told_55 rfl (lv_at hl 1 rfl) ?_
        refine va_get (D := (dC, dI)) (ci := 5) (v := .ref xwa) (C := RX5) (T := TX5) (N := 16) hx hb hts kt_X5 hown hK hP 2 rfl rfl 12 (by decide) (kx_word hG kq_79 rfl) (fun _ h9 => h9) rfl dX5_told_56 ?_
        refine va_getN (D := (dC, dI)) (ci := 4) (v := .int 0) (C := RX4) (T := TX4) (N := 5) hx hb hts kt_X4 hown hK hP 3 rfl rfl 1 (by decide) (va_Nw.use rfl (kx_nf hG kq_138)) (fun _ h9 => h9) rfl dX5_told_59 ?_
        refine lv_icmp_ge (tgt := 74) hx hb dX5_told_62 (by decide) (fun c_10 => ?_) (fun c_10 => ?_)
        · skip
          exact kx_thr_IOB hx hb hlf hown hG hZ hS (hl.1.trans hml.symm) dX5_told_74 dX5_told_77 dX5_told_78 dX5_told_81 htab (Nat.le_of_ble_eq_true rfl) (Nat.le_of_ble_eq_true rfl) (Nat.le_of_ble_eq_true rfl) (Nat.le_of_ble_eq_true rfl) hlocks (fun t hvm hF => ⟨(), trivial, ⟨rfl, ek_t1 c_8⟩, hF⟩) hS.2.2 (by omega) (by omega)
        · exact absurd (kz_nn c_9) c_10
    · skip
      refine lv_aload_n hx hb dX5_told_42 rfl (lv_at hl 1 rfl) ?_
      refine va_get (D := (dC, dI)) (ci := 5) (v := .ref xwa) (C := RX5) (T := TX5) (N := 16) hx hb hts kt_X5 hown hK hP 2 rfl rfl 12 (by decide) (kx_word hG kq_79 rfl) (fun _ h9 => h9) rfl dX5_told_43 ?_
      refine va_getN (D := (dC, dI)) (ci := 4) (v := .int 0) (C := RX4) (T := TX4) (N := 5) hx hb hts kt_X4 hown hK hP 3 rfl rfl 1 (by decide) (va_Nw.use rfl (kx_nf hG kq_138)) (fun _ h9 => h9) rfl dX5_told_46 ?_
      refine vx_ret ?_
      have hP9 := hP.sub (ws' := []) [] rfl
      have hD9 := hD.sub (ws' := []) [] (by decide) rfl
      have hK9 := hK.sub (tys' := []) [] rfl
      refine W.widen (k := 1) (n := 6) (by omega) (by omega) ?_
      exact W.iret (v := 0) hx hb hr (fun t ht hW => ⟨⟨0, (), rfl, ⟨rfl, ek_t0 c_8⟩, by rw [ht]; exact hP9, va_K.moved hW.alike hK9, hD9⟩, hS.F ht⟩) hS.2.2 dX5_told_49
  · exact absurd c_7 (by decide)
set_option maxHeartbeats 4000000 in
set_option maxRecDepth 100000 in
theorem c_copyOf (l : Launch) (hlf : l.stackTraces = false) (dC : Nat → ClassId) (dI : Nat → Nat → Nat) (a0 : Nat) (cI : ClassId) (sz : Nat) : Met l yJ7_copyOf_59c91 [.code yJ7_copyOf_59c91 cJ7_copyOf_59c91 3 (some (.array .int))] ({ frames := 1, cells := 1, slots := 4, locals := 60 }) (va_Pc [.ref a0, .int 4] (kx_Pre dC dI [(a0, .inl (cI, 0, .inl (fun _ => 0)))] [(cI, .int)] sz)) (va_Qr (fun u : ClassId × (Nat → Int32) => match u with | (cJ, fj) => True) (fun (u : ClassId × (Nat → Int32)) (ra : Nat) (t : State) => match u with | (cJ, fj) => kx_At dC dI (va_A [(a0, .inl (cI, 0, .inl (fun _ => 0)))] sz) [(ra, .inl (cJ, 4, .inl fj))] [(cJ, .int)] t) (va_A [(a0, .inl (cI, 0, .inl (fun _ => 0)))] sz)) 1 4 (va_A [(a0, .inl (cI, 0, .inl (fun _ => 0)))] sz) := by
  refine Met.ofW (cc := cJ7_copyOf_59c91) (maxL := 3) (ret := (some (.array .int))) (by decide) rfl ?_
  intro p e s m args below meth c s₁ B hml hv
  obtain ⟨rfl, hsz, hP, hK, hD0, hG, hZ⟩ := hv
  have hx := B.exec
  have hb := B.bytes
  have hr := B.returns
  have hts := kx_hts (a := #[.ref a0, .int 4]) hG
  have hown : s.vm.findClass RJ7 = some m.cls := findClass_of_methodNamed B.named
  have hlocks := B.notSynchronized
  subst hsz
  have hD := hD0.self (sz := s.heap.size)
  generalize hAe : va_A [(a0, .inl (cI, 0, .inl (fun _ => 0)))] s.heap.size = A at hD hZ ⊢
  have hA : ∀ q : Nat, s.heap.size ≤ q → A q := fun q h => by rw [← hAe]; exact Or.inr h
  have hS : va_S A s.heap s.heap [] := va_S.rf
  have hP : va_P (dC, dI) kxCl [(a0, .inl (cI, 0, .inl (fun _ => 0)))] s.heap := hP
  have hl := lv_entry ([.ref a0, .int 4]) (n := 3) (Nat.le_of_ble_eq_true rfl)
  rw [lg_entry_eq]
  generalize (lg_sl ([.ref a0, .int 4]) ++ List.replicate (3 - (lg_sl ([.ref a0, .int 4])).length) Slot.unset).toArray = ls at hl ⊢
  have hl : lv_has ls 3 [(0, .ref a0), (1, .int 4)] := hl
  refine lv_iload_n hx hb dJ7_copyOf_59c91_0 rfl (lv_at hl 1 rfl) ?_
  refine lv_aload_n hx hb dJ7_copyOf_59c91_1 rfl (lv_at hl 0 rfl) ?_
  refine va_alen (v := 0) hx hb hK hP 0 0 rfl rfl (show Int32.ofNat 0 = 0 by decide) dJ7_copyOf_59c91_2 ?_
  refine lv_icmp_ne (tgt := 14) hx hb dJ7_copyOf_59c91_3 (by decide) (fun c_1 => ?_) (fun c_1 => ?_)
  · skip
    refine lv_iload_n hx hb dJ7_copyOf_59c91_14 rfl (lv_at hl 1 rfl) ?_
    refine va_newa (atype := .int) (ty := .int) (N' := 4) (a0 := (4, .inl (fun _ => 0))) hx hb (kx_word hG kq_3 rfl) rfl hK hP hD hS hA (fun _ => rfl) (by decide) (by decide) (by decide) (Nat.le_of_ble_eq_true rfl) (Nat.le_of_ble_eq_true rfl) dJ7_copyOf_59c91_15 (fun q_2 cA_3 H hK hP hD hS => ?_)
    have hP : va_P (dC, dI) kxCl [(a0, .inl (cI, 0, .inl (fun _ => 0))), (q_2, .inl (cA_3, 4, .inl (fun _ => 0)))] H := hP
    have hD : va_D A [(a0, .inl (cI, 0, .inl (fun _ => 0))), (q_2, .inl (cA_3, 4, .inl (fun _ => 0)))] := hD
    have hK : va_K (dC, dI) kxCl [(cI, .int), (cA_3, .int)] s := hK
    refine W.widen (k := 1) (n := 4) (by omega) (by omega) ?_
    refine lv_astore_n (lv' := [(2, .ref q_2), (0, .ref a0), (1, .int 4)]) hx hb dJ7_copyOf_59c91_17 rfl hl (by decide) rfl (fun ls hl => ?_)
    refine lv_aload_n hx hb dJ7_copyOf_59c91_18 rfl (lv_at hl 1 rfl) ?_
    refine lv_iconst (v := 0) hx hb dJ7_copyOf_59c91_19 (by decide) ?_
    refine lv_aload_n hx hb dJ7_copyOf_59c91_20 rfl (lv_at hl 0 rfl) ?_
    refine lv_iconst (v := 0) hx hb dJ7_copyOf_59c91_21 (by decide) ?_
    refine lv_aload_n hx hb dJ7_copyOf_59c91_22 rfl (lv_at hl 1 rfl) ?_
    refine va_alen (v := 0) hx hb hK hP 0 0 rfl rfl (show Int32.ofNat 0 = 0 by decide) dJ7_copyOf_59c91_23 ?_
    refine lv_iload_n hx hb dJ7_copyOf_59c91_24 rfl (lv_at hl 2 rfl) ?_
    refine va_mmin hx hb (by rw [hml]; exact hl.1.symm) hown (kx_word hG kq_139 rfl) (kx_word hG kq_140 rfl) (kx_word hG kq_141 rfl) (kx_word hG kq_142 rfl) (Nat.le_of_ble_eq_true rfl) (Nat.le_of_ble_eq_true rfl) (Nat.le_of_ble_eq_true rfl) (Nat.le_of_ble_eq_true rfl) dJ7_copyOf_59c91_25 ?_
    refine lv_topi (fun x_4 ex_4 => ?_)
    obtain rfl : x_4 = 0 := ex_4.trans (by decide)
    refine va_copyi hx hb (by rw [hml]; exact hl.1.symm) hown (kx_word hG kq_143 rfl) (kx_word hG kq_144 rfl) (kx_word hG kq_145 rfl) (kx_word hG kq_146 rfl) hK hP hD hS 0 1 0 1 (ty := .int) rfl rfl rfl rfl rfl (by decide) (by decide) (by decide) (by decide) (by decide) (fun _ _ => rfl) (Nat.le_of_ble_eq_true rfl) (Nat.le_of_ble_eq_true rfl) dJ7_copyOf_59c91_28 (fun H locs hP hD hS => ?_)
    have hP : va_P (dC, dI) kxCl [(a0, .inl (cI, 0, .inl (fun _ => 0))), (q_2, .inl (cA_3, 4, .inl (va_cpy (fun _ => 0) (fun _ => 0) (0 : Int32).toNatClampNeg (0 : Int32).toNatClampNeg (0 : Int32).toNatClampNeg)))] H := hP
    have hD : va_D A [(a0, .inl (cI, 0, .inl (fun _ => 0))), (q_2, .inl (cA_3, 4, .inl (va_cpy (fun _ => 0) (fun _ => 0) (0 : Int32).toNatClampNeg (0 : Int32).toNatClampNeg (0 : Int32).toNatClampNeg)))] := hD
    refine lv_aload_n hx hb dJ7_copyOf_59c91_31 rfl (lv_at hl 0 rfl) ?_
    have hP9 := hP.sub (ws' := [(q_2, .inl (cA_3, 4, .inl (va_cpy (fun _ => 0) (fun _ => 0) (0 : Int32).toNatClampNeg (0 : Int32).toNatClampNeg (0 : Int32).toNatClampNeg)))]) [1] rfl
    have hD9 := hD.sub (ws' := [(q_2, .inl (cA_3, 4, .inl (va_cpy (fun _ => 0) (fun _ => 0) (0 : Int32).toNatClampNeg (0 : Int32).toNatClampNeg (0 : Int32).toNatClampNeg)))]) [1] (by decide) rfl
    have hK9 := hK.sub (tys' := [(cA_3, .int)]) [1] rfl
    exact W.aret (v := .ref q_2) hx hb hr (Or.inr ⟨_, rfl⟩) (Or.inr ⟨_, rfl⟩) (fun t ht hW => ⟨⟨(cA_3, va_cpy (fun _ => 0) (fun _ => 0) (0 : Int32).toNatClampNeg (0 : Int32).toNatClampNeg (0 : Int32).toNatClampNeg), q_2, rfl, trivial, by rw [ht]; exact hP9, va_K.moved hW.alike hK9, hD9⟩, hS.F ht⟩) hS.2.2 dJ7_copyOf_59c91_32
  · exact absurd c_1 (by decide)
set_option maxHeartbeats 4000000 in
set_option maxRecDepth 100000 in
theorem c_Ints_add (l : Launch) (hlf : l.stackTraces = false) (dC : Nat → ClassId) (dI : Nat → Nat → Nat) (h0 : Nat) (rm : Nat) (cI : ClassId) (v0 : Int32) (sz : Nat) : Met l yX1_add [.code yX1_add cX1_add 2 none] ({ frames := 2, cells := 1, slots := 4, locals := 82 }) (va_Pc [.ref h0, .int v0] (kx_Pre dC dI [(h0, .inr (1, [.int 80, .ref rm, .int 0])), (rm, .inl (cI, 0, .inl (fun _ => 0)))] [(cI, .int)] sz)) (va_Qv (fun u : Nat => match u with | q1 => True) (fun (u : Nat) (t : State) => match u with | q1 => kx_At dC dI (va_A [(h0, .inr (1, [.int 80, .ref rm, .int 0])), (rm, .inl (cI, 0, .inl (fun _ => 0)))] sz) [(h0, .inr (1, [.int 80, .ref q1, .int 1]))] [] t) (va_A [(h0, .inr (1, [.int 80, .ref rm, .int 0])), (rm, .inl (cI, 0, .inl (fun _ => 0)))] sz)) 1 4 (va_A [(h0, .inr (1, [.int 80, .ref rm, .int 0])), (rm, .inl (cI, 0, .inl (fun _ => 0)))] sz) := by
  refine Met.ofW (cc := cX1_add) (maxL := 2) (ret := none) (by decide) rfl ?_
  intro p e s m args below meth c s₁ B hml hv
  obtain ⟨rfl, hsz, hP, hK, hD0, hG, hZ⟩ := hv
  have hx := B.exec
  have hb := B.bytes
  have hr := B.returns
  have hts := kx_hts (a := #[.ref h0, .int v0]) hG
  have hown : s.vm.findClass RX1 = some m.cls := findClass_of_methodNamed B.named
  have hlocks := B.notSynchronized
  subst hsz
  have hD := hD0.self (sz := s.heap.size)
  generalize hAe : va_A [(h0, .inr (1, [.int 80, .ref rm, .int 0])), (rm, .inl (cI, 0, .inl (fun _ => 0)))] s.heap.size = A at hD hZ ⊢
  have hA : ∀ q : Nat, s.heap.size ≤ q → A q := fun q h => by rw [← hAe]; exact Or.inr h
  have hS : va_S A s.heap s.heap [] := va_S.rf
  have hP : va_P (dC, dI) kxCl [(h0, .inr (1, [.int 80, .ref rm, .int 0])), (rm, .inl (cI, 0, .inl (fun _ => 0)))] s.heap := hP
  have hl := lv_entry ([.ref h0, .int v0]) (n := 2) (Nat.le_of_ble_eq_true rfl)
  rw [lg_entry_eq]
  generalize (lg_sl ([.ref h0, .int v0]) ++ List.replicate (2 - (lg_sl ([.ref h0, .int v0])).length) Slot.unset).toArray = ls at hl ⊢
  have hl : lv_has ls 2 [(0, .ref h0), (1, .int v0)] := hl
  refine lv_aload_n hx hb dX1_add_0 rfl (lv_at hl 0 rfl) ?_
  refine va_get (D := (dC, dI)) (ci := 1) (v := .int 0) (C := RX1) (T := TX1) (N := 3) hx hb hts kt_X1 hown hK hP 0 rfl rfl 2 (by decide) (kx_word hG kq_5 rfl) (fun _ h9 => h9) rfl dX1_add_1 ?_
  refine lv_if_lt (tgt := 18) hx hb dX1_add_4 (by decide) (fun c_1 => ?_) (fun c_1 => ?_)
  · exact absurd c_1 (by decide)
  · skip
    refine lv_aload_n hx hb dX1_add_7 rfl (lv_at hl 0 rfl) ?_
    refine va_get (D := (dC, dI)) (ci := 1) (v := .int 0) (C := RX1) (T := TX1) (N := 3) hx hb hts kt_X1 hown hK hP 0 rfl rfl 2 (by decide) (kx_word hG kq_5 rfl) (fun _ h9 => h9) rfl dX1_add_8 ?_
    refine lv_aload_n hx hb dX1_add_11 rfl (lv_at hl 0 rfl) ?_
    refine va_get (D := (dC, dI)) (ci := 1) (v := .int 80) (C := RX1) (T := TX1) (N := 3) hx hb hts kt_X1 hown hK hP 0 rfl rfl 0 (by decide) (kx_word hG kq_6 rfl) (fun _ h9 => h9) rfl dX1_add_12 ?_
    refine lv_icmp_lt (tgt := 19) hx hb dX1_add_15 (by decide) (fun c_2 => ?_) (fun c_2 => ?_)
    · skip
      refine lv_aload_n hx hb dX1_add_19 rfl (lv_at hl 0 rfl) ?_
      refine va_get (D := (dC, dI)) (ci := 1) (v := .int 0) (C := RX1) (T := TX1) (N := 3) hx hb hts kt_X1 hown hK hP 0 rfl rfl 2 (by decide) (kx_word hG kq_5 rfl) (fun _ h9 => h9) rfl dX1_add_20 ?_
      refine lv_aload_n hx hb dX1_add_23 rfl (lv_at hl 0 rfl) ?_
      refine va_get (D := (dC, dI)) (ci := 1) (v := .ref rm) (C := RX1) (T := TX1) (N := 3) hx hb hts kt_X1 hown hK hP 0 rfl rfl 1 (by decide) (kx_word hG kq_4 rfl) (fun _ h9 => h9) rfl dX1_add_24 ?_
      refine va_alen (v := 0) hx hb hK hP 1 0 rfl rfl (show Int32.ofNat 0 = 0 by decide) dX1_add_27 ?_
      refine lv_icmp_lt (tgt := 57) hx hb dX1_add_28 (by decide) (fun c_3 => ?_) (fun c_3 => ?_)
      · exact absurd c_3 (by decide)
      · skip
        refine lv_aload_n hx hb dX1_add_31 rfl (lv_at hl 0 rfl) ?_
        refine lv_aload_n hx hb dX1_add_32 rfl (lv_at hl 0 rfl) ?_
        refine va_get (D := (dC, dI)) (ci := 1) (v := .ref rm) (C := RX1) (T := TX1) (N := 3) hx hb hts kt_X1 hown hK hP 0 rfl rfl 1 (by decide) (kx_word hG kq_4 rfl) (fun _ h9 => h9) rfl dX1_add_33 ?_
        refine lv_aload_n hx hb dX1_add_36 rfl (lv_at hl 0 rfl) ?_
        refine va_get (D := (dC, dI)) (ci := 1) (v := .int 80) (C := RX1) (T := TX1) (N := 3) hx hb hts kt_X1 hown hK hP 0 rfl rfl 0 (by decide) (kx_word hG kq_6 rfl) (fun _ h9 => h9) rfl dX1_add_37 ?_
        refine lv_iconst (v := 2) hx hb dX1_add_40 (by decide) ?_
        refine lv_aload_n hx hb dX1_add_41 rfl (lv_at hl 0 rfl) ?_
        refine va_get (D := (dC, dI)) (ci := 1) (v := .int 0) (C := RX1) (T := TX1) (N := 3) hx hb hts kt_X1 hown hK hP 0 rfl rfl 2 (by decide) (kx_word hG kq_5 rfl) (fun _ h9 => h9) rfl dX1_add_42 ?_
        refine lv_imul hx hb dX1_add_45 ?_
        refine lv_topi (fun x_4 ex_4 => ?_)
        obtain rfl : x_4 = 0 := ex_4.trans (by decide)
        refine lv_iconst (v := 4) hx hb dX1_add_46 (by decide) ?_
        refine lv_iadd hx hb dX1_add_47 ?_
        refine lv_topi (fun x_5 ex_5 => ?_)
        obtain rfl : x_5 = 4 := ex_5.trans (by decide)
        refine va_mmin hx hb (by rw [hml]; exact hl.1.symm) hown (kx_word hG kq_147 rfl) (kx_word hG kq_140 rfl) (kx_word hG kq_141 rfl) (kx_word hG kq_142 rfl) (Nat.le_of_ble_eq_true rfl) (Nat.le_of_ble_eq_true rfl) (Nat.le_of_ble_eq_true rfl) (Nat.le_of_ble_eq_true rfl) dX1_add_48 ?_
        refine lv_topi (fun x_6 ex_6 => ?_)
        obtain rfl : x_6 = 4 := ex_6.trans (by decide)
        have hPc := hP.sub (ws' := [(rm, .inl (cI, 0, .inl (fun _ => 0)))]) [1] rfl
        have hDc := hD.sub (ws' := [(rm, .inl (cI, 0, .inl (fun _ => 0)))]) [1] (by decide) rfl
        have hKc := hK.sub (tys' := [(cI, .int)]) [0] rfl
        have hFc := va_free (wc := [(rm, .inl (cI, 0, .inl (fun _ => 0)))]) hD hS hA [1] rfl
        refine va_callr (va_runS (As := [.ref rm, .int 4]) (rest := [.ref h0]) ⟨hx, hb, hml, hown, hts⟩ (c_copyOf l hlf dC dI rm cI s.heap.size ) (va_cwS 2 hts (kx_gS kq_148 kq_149 kq_150 kq_151 rfl) rfl rfl rfl (by decide +kernel) ⟨Nat.le_of_ble_eq_true rfl, Nat.le_of_ble_eq_true rfl⟩) ⟨kx_blind, kx_give (ws := []) (tys := []) hPc hDc hKc hG hZ hS hFc⟩ rfl rfl hl.1 rfl (lv_room (Nat.le_of_ble_eq_true rfl)) dX1_add_51 ⟨Nat.le_of_ble_eq_true rfl, Nat.le_of_ble_eq_true rfl⟩) hS (fun q _ h => hFc q h) hFc (fun u r_7 t H1 locs ht hvm hw_8 hB hz1 hk1 hS => ?_)
        obtain ⟨cJ_9, fj_10⟩ := u
        obtain ⟨hP1, hK1, hD1⟩ := hB
        rw [ht] at hP1
        have hK1 := va_K.moved hvm.symm hK1
        try dsimp only at hw_8
        obtain ⟨hP, hD⟩ := va_join (wr := [(h0, .inr (1, [.int 80, .ref rm, .int 0]))]) (w1 := [(r_7, .inl (cJ_9, 4, .inl fj_10))]) hP hD [1] [0] rfl rfl (by decide) (by decide) hk1 hFc hP1 hD1
        have hK := (hK.sub (tys' := []) [] rfl).app hK1
        generalize H1 = H at hP hS ⊢
        have hP : va_P (dC, dI) kxCl [(h0, .inr (1, [.int 80, .ref rm, .int 0])), (r_7, .inl (cJ_9, 4, .inl fj_10))] H := hP
        have hD : va_D A [(h0, .inr (1, [.int 80, .ref rm, .int 0])), (r_7, .inl (cJ_9, 4, .inl fj_10))] := hD
        have hK : va_K (dC, dI) kxCl [(cJ_9, .int)] s := hK
        refine W.widen (k := 1) (n := 4) (by omega) (by omega) ?_
        refine va_put (D := (dC, dI)) (ci := 1) (v := .ref r_7) (ty := .array .int) (C := RX1) (T := TX1) (N := 3) hx hb hts kt_X1 tyX1 tyX1_ok nmX1 hown hK hP hD hS 0 rfl rfl 1 (by decide) (kx_word hG kq_4 rfl) (fun _ h9 => h9) rfl (by decide +kernel) rfl rfl (Nat.le_of_ble_eq_true rfl) dX1_add_54 (fun H locs hP hD hS => ?_)
        have hP : va_P (dC, dI) kxCl [(h0, .inr (1, [.int 80, .ref r_7, .int 0])), (r_7, .inl (cJ_9, 4, .inl fj_10))] H := hP
        have hD : va_D A [(h0, .inr (1, [.int 80, .ref r_7, .int 0])), (r_7, .inl (cJ_9, 4, .inl fj_10))] := hD
        refine lv_aload_n hx hb dX1_add_57 rfl (lv_at hl 0 rfl) ?_
        refine va_get (D := (dC, dI)) (ci := 1) (v := .int 0) (C := RX1) (T := TX1) (N := 3) hx hb hts kt_X1 hown hK hP 0 rfl rfl 2 (by decide) (kx_word hG kq_5 rfl) (fun _ h9 => h9) rfl dX1_add_58 ?_
        refine lv_aload_n hx hb dX1_add_61 rfl (lv_at hl 0 rfl) ?_
        refine va_get (D := (dC, dI)) (ci := 1) (v := .ref r_7) (C := RX1) (T := TX1) (N := 3) hx hb hts kt_X1 hown hK hP 0 rfl rfl 1 (by decide) (kx_word hG kq_4 rfl) (fun _ h9 => h9) rfl dX1_add_62 ?_
        refine va_alen (v := 4) hx hb hK hP 1 0 rfl rfl (show Int32.ofNat 4 = 4 by decide) dX1_add_65 ?_
        refine lv_icmp_ge (tgt := 89) hx hb dX1_add_66 (by decide) (fun c_11 => ?_) (fun c_11 => ?_)
        · exact absurd c_11 (by decide)
        · skip
          refine lv_aload_n hx hb dX1_add_69 rfl (lv_at hl 0 rfl) ?_
          refine va_get (D := (dC, dI)) (ci := 1) (v := .ref r_7) (C := RX1) (T := TX1) (N := 3) hx hb hts kt_X1 hown hK hP 0 rfl rfl 1 (by decide) (kx_word hG kq_4 rfl) (fun _ h9 => h9) rfl dX1_add_70 ?_
          refine lv_aload_n hx hb dX1_add_73 rfl (lv_at hl 0 rfl) ?_
          refine va_get (D := (dC, dI)) (ci := 1) (v := .int 0) (C := RX1) (T := TX1) (N := 3) hx hb hts kt_X1 hown hK hP 0 rfl rfl 2 (by decide) (kx_word hG kq_5 rfl) (fun _ h9 => h9) rfl dX1_add_74 ?_
          refine lv_iload_n hx hb dX1_add_77 rfl (lv_at hl 1 rfl) ?_
          refine va_iast hx hb hK hP hD hS 1 0 rfl rfl (show vp_in 0 4 by unfold vp_in; decide) dX1_add_78 (fun H locs hP hD hS => ?_)
          have hP : va_P (dC, dI) kxCl [(h0, .inr (1, [.int 80, .ref r_7, .int 0])), (r_7, .inl (cJ_9, 4, .inl (upd fj_10 (0 : Int32).toNatClampNeg v0)))] H := hP
          have hD : va_D A [(h0, .inr (1, [.int 80, .ref r_7, .int 0])), (r_7, .inl (cJ_9, 4, .inl (upd fj_10 (0 : Int32).toNatClampNeg v0)))] := hD
          refine lv_aload_n hx hb dX1_add_79 rfl (lv_at hl 0 rfl) ?_
          refine lv_dup hx hb dX1_add_80 rfl ?_
          refine va_get (D := (dC, dI)) (ci := 1) (v := .int 0) (C := RX1) (T := TX1) (N := 3) hx hb hts kt_X1 hown hK hP 0 rfl rfl 2 (by decide) (kx_word hG kq_5 rfl) (fun _ h9 => h9) rfl dX1_add_81 ?_
          refine lv_iconst (v := 1) hx hb dX1_add_84 (by decide) ?_
          refine lv_iadd hx hb dX1_add_85 ?_
          refine lv_topi (fun x_12 ex_12 => ?_)
          obtain rfl : x_12 = 1 := ex_12.trans (by decide)
          refine va_put (D := (dC, dI)) (ci := 1) (v := .int 1) (ty := .int) (C := RX1) (T := TX1) (N := 3) hx hb hts kt_X1 tyX1 tyX1_ok nmX1 hown hK hP hD hS 0 rfl rfl 2 (by decide) (kx_word hG kq_5 rfl) (fun _ h9 => h9) rfl (by decide +kernel) rfl rfl (Nat.le_of_ble_eq_true rfl) dX1_add_86 (fun H locs hP hD hS => ?_)
          have hP : va_P (dC, dI) kxCl [(h0, .inr (1, [.int 80, .ref r_7, .int 1])), (r_7, .inl (cJ_9, 4, .inl (upd fj_10 (0 : Int32).toNatClampNeg v0)))] H := hP
          have hD : va_D A [(h0, .inr (1, [.int 80, .ref r_7, .int 1])), (r_7, .inl (cJ_9, 4, .inl (upd fj_10 (0 : Int32).toNatClampNeg v0)))] := hD
          have hP9 := hP.sub (ws' := [(h0, .inr (1, [.int 80, .ref r_7, .int 1]))]) [0] rfl
          have hD9 := hD.sub (ws' := [(h0, .inr (1, [.int 80, .ref r_7, .int 1]))]) [0] (by decide) rfl
          have hK9 := hK.sub (tys' := []) [] rfl
          exact W.vret hx hb hr (fun t ht hW => ⟨⟨(r_7), rfl, trivial, by rw [ht]; exact hP9, va_K.moved hW.alike hK9, hD9⟩, hS.F ht⟩) hS.2.2 dX1_add_89
    · exact absurd c_2 (by decide)
set_option maxHeartbeats 4000000 in
set_option maxRecDepth 100000 in
theorem c_style (l : Launch) (hlf : l.stackTraces = false) (dC : Nat → ClassId) (dI : Nat → Nat → Nat) (x : Nat) (xe : Nat) (xn : Nat) (xso : Nat) (xro : Nat) (xga : Nat) (xlo : Nat) (xse : Nat) (xwa : Nat) (xst : Nat) (xou : Nat) (xdr : Nat) (xr3 : Nat) (cI : ClassId) (c0 : Int32) (sz : Nat) : vx_Met l yX5_style [.code yX5_style cX5_style 2 (some .int)] ({ frames := 7, cells := 1, slots := 6, locals := 103 }) (va_Pc [.ref x, .int c0] (kx_Pre dC dI [(x, .inr (5, [.ref xe, .ref xn, .int 0, .int 1, .int 1, .ref xso, .ref xro, .int 0, .ref xga, .ref xlo, .int (-1), .ref xse, .ref xwa, .ref xst, .ref xou, .ref xdr])), (xst, .inr (1, [.int 80, .ref xr3, .int 0])), (xr3, .inl (cI, 0, .inl (fun _ => 0)))] [(cI, .int)] sz)) (va_Qi (fun (r : Int32) (u : Unit) => match u with | _ => r = ev_style c0 ∧ ek_style c0 = 0) (fun (u : Unit) (t : State) => match u with | _ => kx_At dC dI (va_A [(x, .inr (5, [.ref xe, .ref xn, .int 0, .int 1, .int 1, .ref xso, .ref xro, .int 0, .ref xga, .ref xlo, .int (-1), .ref xse, .ref xwa, .ref xst, .ref xou, .ref xdr])), (xst, .inr (1, [.int 80, .ref xr3, .int 0])), (xr3, .inl (cI, 0, .inl (fun _ => 0)))] sz) [] [] t) (va_A [(x, .inr (5, [.ref xe, .ref xn, .int 0, .int 1, .int 1, .ref xso, .ref xro, .int 0, .ref xga, .ref xlo, .int (-1), .ref xse, .ref xwa, .ref xst, .ref xou, .ref xdr])), (xst, .inr (1, [.int 80, .ref xr3, .int 0])), (xr3, .inl (cI, 0, .inl (fun _ => 0)))] sz)) (vx_X (fun _ : Unit => True) (fun E _ _ => E = "java/lang/IllegalArgumentException" ∧ ek_style c0 = 1) (va_A [(x, .inr (5, [.ref xe, .ref xn, .int 0, .int 1, .int 1, .ref xso, .ref xro, .int 0, .ref xga, .ref xlo, .int (-1), .ref xse, .ref xwa, .ref xst, .ref xou, .ref xdr])), (xst, .inr (1, [.int 80, .ref xr3, .int 0])), (xr3, .inl (cI, 0, .inl (fun _ => 0)))] sz)) 1 6 (va_A [(x, .inr (5, [.ref xe, .ref xn, .int 0, .int 1, .int 1, .ref xso, .ref xro, .int 0, .ref xga, .ref xlo, .int (-1), .ref xse, .ref xwa, .ref xst, .ref xou, .ref xdr])), (xst, .inr (1, [.int 80, .ref xr3, .int 0])), (xr3, .inl (cI, 0, .inl (fun _ => 0)))] sz) := by
  refine vx_ofW (cc := cX5_style) (maxL := 2) (ret := (some .int)) (by decide) rfl ?_
  intro p e s m args below meth c s₁ B hml htab hv
  obtain ⟨rfl, hsz, hP, hK, hD0, hG, hZ⟩ := hv
  have hx := B.exec
  have hb := B.bytes
  have hr := B.returns
  have hts := kx_hts (a := #[.ref x, .int c0]) hG
  have hown : s.vm.findClass RX5 = some m.cls := findClass_of_methodNamed B.named
  have hlocks := B.notSynchronized
  subst hsz
  have hD := hD0.self (sz := s.heap.size)
  generalize hAe : va_A [(x, .inr (5, [.ref xe, .ref xn, .int 0, .int 1, .int 1, .ref xso, .ref xro, .int 0, .ref xga, .ref xlo, .int (-1), .ref xse, .ref xwa, .ref xst, .ref xou, .ref xdr])), (xst, .inr (1, [.int 80, .ref xr3, .int 0])), (xr3, .inl (cI, 0, .inl (fun _ => 0)))] s.heap.size = A at hD hZ ⊢
  have hA : ∀ q : Nat, s.heap.size ≤ q → A q := fun q h => by rw [← hAe]; exact Or.inr h
  have hS : va_S A s.heap s.heap [] := va_S.rf
  have hP : va_P (dC, dI) kxCl [(x, .inr (5, [.ref xe, .ref xn, .int 0, .int 1, .int 1, .ref xso, .ref xro, .int 0, .ref xga, .ref xlo, .int (-1), .ref xse, .ref xwa, .ref xst, .ref xou, .ref xdr])), (xst, .inr (1, [.int 80, .ref xr3, .int 0])), (xr3, .inl (cI, 0, .inl (fun _ => 0)))] s.heap := hP
  have hl := lv_entry ([.ref x, .int c0]) (n := 2) (Nat.le_of_ble_eq_true rfl)
  rw [lg_entry_eq]
  generalize (lg_sl ([.ref x, .int c0]) ++ List.replicate (2 - (lg_sl ([.ref x, .int c0])).length) Slot.unset).toArray = ls at hl ⊢
  have hl : lv_has ls 2 [(0, .ref x), (1, .int c0)] := hl
  refine lv_iload_n hx hb dX5_style_0 rfl (lv_at hl 1 rfl) ?_
  refine lv_if_lt (tgt := 10) hx hb dX5_style_1 (by decide) (fun c_1 => ?_) (fun c_1 => ?_)
  · skip
    exact kx_thr_IAE hx hb hlf hown hG hZ hS (hl.1.trans hml.symm) dX5_style_10 dX5_style_13 dX5_style_14 dX5_style_17 htab (Nat.le_of_ble_eq_true rfl) (Nat.le_of_ble_eq_true rfl) (Nat.le_of_ble_eq_true rfl) (Nat.le_of_ble_eq_true rfl) hlocks (fun t hvm hF => ⟨(), trivial, ⟨rfl, ek_s1 c_1⟩, hF⟩) hS.2.2 (by omega) (by omega)
  · skip
    refine lv_iload_n hx hb dX5_style_4 rfl (lv_at hl 1 rfl) ?_
    refine lv_bipush (v := 127) hx hb dX5_style_5 (by decide) ?_
    refine lv_icmp_le (tgt := 18) hx hb dX5_style_7 (by decide) (fun c_2 => ?_) (fun c_2 => ?_)
    · skip
      refine lv_iload_n hx hb dX5_style_18 rfl (lv_at hl 1 rfl) ?_
      refine lv_if_ne (tgt := 31) hx hb dX5_style_19 (by decide) (fun c_3 => ?_) (fun c_3 => ?_)
      · skip
        refine lv_aload_n hx hb dX5_style_31 rfl (lv_at hl 0 rfl) ?_
        refine va_get (D := (dC, dI)) (ci := 5) (v := .ref xst) (C := RX5) (T := TX5) (N := 16) hx hb hts kt_X5 hown hK hP 0 rfl rfl 13 (by decide) (kx_word hG kq_80 rfl) (fun _ h9 => h9) rfl dX5_style_32 ?_
        have hPc := hP.sub (ws' := [(xst, .inr (1, [.int 80, .ref xr3, .int 0]))]) [1] rfl
        have hDc := hD.sub (ws' := [(xst, .inr (1, [.int 80, .ref xr3, .int 0]))]) [1] (by decide) rfl
        have hKc := hK.sub (tys' := []) [] rfl
        have hFc := va_free (wc := [(xst, .inr (1, [.int 80, .ref xr3, .int 0]))]) hD hS hA [1] rfl
        refine va_calli (va_runV (As := []) (rest := []) ⟨hx, hb, hml, hown, hts⟩ (c_Ints_isFull l hlf dC dI xst xr3 s.heap.size ) (cwV 0 hts (kx_gV kq_152 kq_153 kq_154 kq_21 kq_155 rfl) rfl rfl rfl (by decide +kernel) ⟨Nat.le_of_ble_eq_true rfl, Nat.le_of_ble_eq_true rfl⟩) ⟨kx_blind, va_recv hKc hPc (ci := 1) (q0 := 0) rfl rfl, kx_give (ws := []) (tys := []) hPc hDc hKc hG hZ hS hFc⟩ rfl rfl hl.1 rfl (lv_room (Nat.le_of_ble_eq_true rfl)) dX5_style_35 ⟨Nat.le_of_ble_eq_true rfl, Nat.le_of_ble_eq_true rfl⟩) hS (fun q _ h => hFc q h) hFc (fun r_4 u t H1 locs ht hvm hw_5 hB hz1 hk1 hS => ?_)
        obtain ⟨hP1, hK1, hD1⟩ := hB
        rw [ht] at hP1
        have hK1 := va_K.moved hvm.symm hK1
        try dsimp only at hw_5
        obtain ⟨hP, hD⟩ := va_join (wr := [(x, .inr (5, [.ref xe, .ref xn, .int 0, .int 1, .int 1, .ref xso, .ref xro, .int 0, .ref xga, .ref xlo, .int (-1), .ref xse, .ref xwa, .ref xst, .ref xou, .ref xdr])), (xr3, .inl (cI, 0, .inl (fun _ => 0)))]) (w1 := [(xst, .inr (1, [.int 80, .ref xr3, .int 0]))]) hP hD [1] [0, 2] rfl rfl (by decide) (by decide) hk1 hFc hP1 hD1
        have hK := (hK.sub (tys' := [(cI, .int)]) [0] rfl).app hK1
        generalize H1 = H at hP hS ⊢
        have hP : va_P (dC, dI) kxCl [(x, .inr (5, [.ref xe, .ref xn, .int 0, .int 1, .int 1, .ref xso, .ref xro, .int 0, .ref xga, .ref xlo, .int (-1), .ref xse, .ref xwa, .ref xst, .ref xou, .ref xdr])), (xr3, .inl (cI, 0, .inl (fun _ => 0))), (xst, .inr (1, [.int 80, .ref xr3, .int 0]))] H := hP
        have hD : va_D A [(x, .inr (5, [.ref xe, .ref xn, .int 0, .int 1, .int 1, .ref xso, .ref xro, .int 0, .ref xga, .ref xlo, .int (-1), .ref xse, .ref xwa, .ref xst, .ref xou, .ref xdr])), (xr3, .inl (cI, 0, .inl (fun _ => 0))), (xst, .inr (1, [.int 80, .ref xr3, .int 0]))] := hD
        have hK : va_K (dC, dI) kxCl [(cI, .int)] s := hK
        subst hw_5
        refine lv_if_eq (tgt := 49) hx hb dX5_style_38 (by decide) (fun c_6 => ?_) (fun c_6 => ?_)
        · skip
          refine lv_aload_n hx hb dX5_style_49 rfl (lv_at hl 0 rfl) ?_
          refine va_get (D := (dC, dI)) (ci := 5) (v := .ref xst) (C := RX5) (T := TX5) (N := 16) hx hb hts kt_X5 hown hK hP 0 rfl rfl 13 (by decide) (kx_word hG kq_80 rfl) (fun _ h9 => h9) rfl dX5_style_50 ?_
          refine lv_iload_n hx hb dX5_style_53 rfl (lv_at hl 1 rfl) ?_
          have hPc := hP.sub (ws' := [(xst, .inr (1, [.int 80, .ref xr3, .int 0])), (xr3, .inl (cI, 0, .inl (fun _ => 0)))]) [2, 1] rfl
          have hDc := hD.sub (ws' := [(xst, .inr (1, [.int 80, .ref xr3, .int 0])), (xr3, .inl (cI, 0, .inl (fun _ => 0)))]) [2, 1] (by decide) rfl
          have hKc := hK.sub (tys' := [(cI, .int)]) [0] rfl
          have hFc := va_free (wc := [(xst, .inr (1, [.int 80, .ref xr3, .int 0])), (xr3, .inl (cI, 0, .inl (fun _ => 0)))]) hD hS hA [2, 1] rfl
          refine va_callv (va_runV (As := [.int c0]) (rest := []) ⟨hx, hb, hml, hown, hts⟩ (c_Ints_add l hlf dC dI xst xr3 cI c0 H.size ) (cwV 1 hts (kx_gV kq_156 kq_157 kq_158 kq_21 kq_159 rfl) rfl rfl rfl (by decide +kernel) ⟨Nat.le_of_ble_eq_true rfl, Nat.le_of_ble_eq_true rfl⟩) ⟨kx_blind, va_recv hKc hPc (ci := 1) (q0 := 0) rfl rfl, kx_give (ws := []) (tys := []) hPc hDc hKc hG hZ hS hFc⟩ rfl rfl hl.1 rfl (lv_room (Nat.le_of_ble_eq_true rfl)) dX5_style_54 ⟨Nat.le_of_ble_eq_true rfl, Nat.le_of_ble_eq_true rfl⟩) hS (fun q _ h => hFc q h) hFc (fun u t H1 locs ht hvm hw_8 hB hz1 hk1 hS => ?_)
          obtain ⟨q1_9, rfl⟩ : ∃ z, z = u := ⟨_, rfl⟩
          obtain ⟨hP1, hK1, hD1⟩ := hB
          rw [ht] at hP1
          have hK1 := va_K.moved hvm.symm hK1
          try dsimp only at hw_8
          obtain ⟨hP, hD⟩ := va_join (wr := [(x, .inr (5, [.ref xe, .ref xn, .int 0, .int 1, .int 1, .ref xso, .ref xro, .int 0, .ref xga, .ref xlo, .int (-1), .ref xse, .ref xwa, .ref xst, .ref xou, .ref xdr]))]) (w1 := [(xst, .inr (1, [.int 80, .ref q1_9, .int 1]))]) hP hD [2, 1] [0] rfl rfl (by decide) (by decide) hk1 hFc hP1 hD1
          have hK := (hK.sub (tys' := []) [] rfl).app hK1
          generalize H1 = H at hP hS ⊢
          have hP : va_P (dC, dI) kxCl [(x, .inr (5, [.ref xe, .ref xn, .int 0, .int 1, .int 1, .ref xso, .ref xro, .int 0, .ref xga, .ref xlo, .int (-1), .ref xse, .ref xwa, .ref xst, .ref xou, .ref xdr])), (xst, .inr (1, [.int 80, .ref q1_9, .int 1]))] H := hP
          have hD : va_D A [(x, .inr (5, [.ref xe, .ref xn, .int 0, .int 1, .int 1, .ref xso, .ref xro, .int 0, .ref xga, .ref xlo, .int (-1), .ref xse, .ref xwa, .ref xst, .ref xou, .ref xdr])), (xst, .inr (1, [.int 80, .ref q1_9, .int 1]))] := hD
          have hK : va_K (dC, dI) kxCl [] s := hK
          refine W.widen (k := 1) (n := 4) (by omega) (by omega) ?_
          refine lv_aload_n hx hb dX5_style_57 rfl (lv_at hl 0 rfl) ?_
          refine va_get (D := (dC, dI)) (ci := 5) (v := .ref xst) (C := RX5) (T := TX5) (N := 16) hx hb hts kt_X5 hown hK hP 0 rfl rfl 13 (by decide) (kx_word hG kq_80 rfl) (fun _ h9 => h9) rfl dX5_style_58 ?_
          have hPc := hP.sub (ws' := [(xst, .inr (1, [.int 80, .ref q1_9, .int 1]))]) [1] rfl
          have hDc := hD.sub (ws' := [(xst, .inr (1, [.int 80, .ref q1_9, .int 1]))]) [1] (by decide) rfl
          have hKc := hK.sub (tys' := []) [] rfl
          have hFc := va_free (wc := [(xst, .inr (1, [.int 80, .ref q1_9, .int 1]))]) hD hS hA [1] rfl
          refine va_calli (va_runV (As := []) (rest := []) ⟨hx, hb, hml, hown, hts⟩ (c_Ints_size l hlf dC dI xst 80 q1_9 1 H.size ) (cwV 0 hts (kx_gV kq_114 kq_115 kq_116 kq_21 kq_117 rfl) rfl rfl rfl (by decide +kernel) ⟨Nat.le_of_ble_eq_true rfl, Nat.le_of_ble_eq_true rfl⟩) ⟨kx_blind, va_recv hKc hPc (ci := 1) (q0 := 0) rfl rfl, kx_give (ws := []) (tys := []) hPc hDc hKc hG hZ hS hFc⟩ rfl rfl hl.1 rfl (lv_room (Nat.le_of_ble_eq_true rfl)) dX5_style_61 ⟨Nat.le_of_ble_eq_true rfl, Nat.le_of_ble_eq_true rfl⟩) hS (fun q _ h => hFc q h) hFc (fun r_10 u t H1 locs ht hvm hw_11 hB hz1 hk1 hS => ?_)
          obtain ⟨hP1, hK1, hD1⟩ := hB
          rw [ht] at hP1
          have hK1 := va_K.moved hvm.symm hK1
          try dsimp only at hw_11
          obtain ⟨hP, hD⟩ := va_join (wr := [(x, .inr (5, [.ref xe, .ref xn, .int 0, .int 1, .int 1, .ref xso, .ref xro, .int 0, .ref xga, .ref xlo, .int (-1), .ref xse, .ref xwa, .ref xst, .ref xou, .ref xdr]))]) (w1 := [(xst, .inr (1, [.int 80, .ref q1_9, .int 1]))]) hP hD [1] [0] rfl rfl (by decide) (by decide) hk1 hFc hP1 hD1
          have hK := (hK.sub (tys' := []) [] rfl).app hK1
          generalize H1 = H at hP hS ⊢
          have hP : va_P (dC, dI) kxCl [(x, .inr (5, [.ref xe, .ref xn, .int 0, .int 1, .int 1, .ref xso, .ref xro, .int 0, .ref xga, .ref xlo, .int (-1), .ref xse, .ref xwa, .ref xst, .ref xou, .ref xdr])), (xst, .inr (1, [.int 80, .ref q1_9, .int 1]))] H := hP
          have hD : va_D A [(x, .inr (5, [.ref xe, .ref xn, .int 0, .int 1, .int 1, .ref xso, .ref xro, .int 0, .ref xga, .ref xlo, .int (-1), .ref xse, .ref xwa, .ref xst, .ref xou, .ref xdr])), (xst, .inr (1, [.int 80, .ref q1_9, .int 1]))] := hD
          have hK : va_K (dC, dI) kxCl [] s := hK
          subst hw_11
          refine vx_ret ?_
          have hP9 := hP.sub (ws' := []) [] rfl
          have hD9 := hD.sub (ws' := []) [] (by decide) rfl
          have hK9 := hK.sub (tys' := []) [] rfl
          refine W.widen (k := 1) (n := 6) (by omega) (by omega) ?_
          exact W.iret (v := 1) hx hb hr (fun t ht hW => ⟨⟨1, (), rfl, ⟨(ev_s1 c_3).symm, ek_s0 c_1 c_2⟩, by rw [ht]; exact hP9, va_K.moved hW.alike hK9, hD9⟩, hS.F ht⟩) hS.2.2 dX5_style_64
        · exact absurd c_6 (by decide)
      · skip
        refine lv_aload_n hx hb dX5_style_22 rfl (lv_at hl 0 rfl) ?_
        refine va_get (D := (dC, dI)) (ci := 5) (v := .ref xst) (C := RX5) (T := TX5) (N := 16) hx hb hts kt_X5 hown hK hP 0 rfl rfl 13 (by decide) (kx_word hG kq_80 rfl) (fun _ h9 => h9) rfl dX5_style_23 ?_
        have hPc := hP.sub (ws' := [(xst, .inr (1, [.int 80, .ref xr3, .int 0]))]) [1] rfl
        have hDc := hD.sub (ws' := [(xst, .inr (1, [.int 80, .ref xr3, .int 0]))]) [1] (by decide) rfl
        have hKc := hK.sub (tys' := []) [] rfl
        have hFc := va_free (wc := [(xst, .inr (1, [.int 80, .ref xr3, .int 0]))]) hD hS hA [1] rfl
        refine va_callv (va_runV (As := []) (rest := []) ⟨hx, hb, hml, hown, hts⟩ (c_Ints_clear l hlf dC dI xst 80 xr3 0 s.heap.size ) (cwV 0 hts (kx_gV kq_110 kq_111 kq_112 kq_21 kq_113 rfl) rfl rfl rfl (by decide +kernel) ⟨Nat.le_of_ble_eq_true rfl, Nat.le_of_ble_eq_true rfl⟩) ⟨kx_blind, va_recv hKc hPc (ci := 1) (q0 := 0) rfl rfl, kx_give (ws := []) (tys := []) hPc hDc hKc hG hZ hS hFc⟩ rfl rfl hl.1 rfl (lv_room (Nat.le_of_ble_eq_true rfl)) dX5_style_26 ⟨Nat.le_of_ble_eq_true rfl, Nat.le_of_ble_eq_true rfl⟩) hS (fun q _ h => hFc q h) hFc (fun u t H1 locs ht hvm hw_13 hB hz1 hk1 hS => ?_)
        obtain ⟨hP1, hK1, hD1⟩ := hB
        rw [ht] at hP1
        have hK1 := va_K.moved hvm.symm hK1
        try dsimp only at hw_13
        obtain ⟨hP, hD⟩ := va_join (wr := [(x, .inr (5, [.ref xe, .ref xn, .int 0, .int 1, .int 1, .ref xso, .ref xro, .int 0, .ref xga, .ref xlo, .int (-1), .ref xse, .ref xwa, .ref xst, .ref xou, .ref xdr])), (xr3, .inl (cI, 0, .inl (fun _ => 0)))]) (w1 := [(xst, .inr (1, [.int 80, .ref xr3, .int 0]))]) hP hD [1] [0, 2] rfl rfl (by decide) (by decide) hk1 hFc hP1 hD1
        have hK := (hK.sub (tys' := [(cI, .int)]) [0] rfl).app hK1
        generalize H1 = H at hP hS ⊢
        have hP : va_P (dC, dI) kxCl [(x, .inr (5, [.ref xe, .ref xn, .int 0, .int 1, .int 1, .ref xso, .ref xro, .int 0, .ref xga, .ref xlo, .int (-1), .ref xse, .ref xwa, .ref xst, .ref xou, .ref xdr])), (xr3, .inl (cI, 0, .inl (fun _ => 0))), (xst, .inr (1, [.int 80, .ref xr3, .int 0]))] H := hP
        have hD : va_D A [(x, .inr (5, [.ref xe, .ref xn, .int 0, .int 1, .int 1, .ref xso, .ref xro, .int 0, .ref xga, .ref xlo, .int (-1), .ref xse, .ref xwa, .ref xst, .ref xou, .ref xdr])), (xr3, .inl (cI, 0, .inl (fun _ => 0))), (xst, .inr (1, [.int 80, .ref xr3, .int 0]))] := hD
        have hK : va_K (dC, dI) kxCl [(cI, .int)] s := hK
        refine lv_iconst (v := 0) hx hb dX5_style_29 (by decide) ?_
        refine vx_ret ?_
        have hP9 := hP.sub (ws' := []) [] rfl
        have hD9 := hD.sub (ws' := []) [] (by decide) rfl
        have hK9 := hK.sub (tys' := []) [] rfl
        refine W.widen (k := 1) (n := 6) (by omega) (by omega) ?_
        exact W.iret (v := 0) hx hb hr (fun t ht hW => ⟨⟨0, (), rfl, ⟨(ev_s0 c_3).symm, ek_s0 c_1 c_2⟩, by rw [ht]; exact hP9, va_K.moved hW.alike hK9, hD9⟩, hS.F ht⟩) hS.2.2 dX5_style_30
    · skip
      exact kx_thr_IAE hx hb hlf hown hG hZ hS (hl.1.trans hml.symm) dX5_style_10 dX5_style_13 dX5_style_14 dX5_style_17 htab (Nat.le_of_ble_eq_true rfl) (Nat.le_of_ble_eq_true rfl) (Nat.le_of_ble_eq_true rfl) (Nat.le_of_ble_eq_true rfl) hlocks (fun t hvm hF => ⟨(), trivial, ⟨rfl, ek_s1b c_1 c_2⟩, hF⟩) hS.2.2 (by omega) (by omega)
set_option maxHeartbeats 4000000 in
set_option maxRecDepth 100000 in
theorem c_firstFault (l : Launch) (hlf : l.stackTraces = false) (dC : Nat → ClassId) (dI : Nat → Nat → Nat) (x : Nat) (xe : Nat) (xn : Nat) (xso : Nat) (xro : Nat) (xga : Nat) (xlo : Nat) (xse : Nat) (xwa : Nat) (xst : Nat) (xou : Nat) (xdr : Nat) (xr3 : Nat) (sz : Nat) : Met l yX5_firstFault [.code yX5_firstFault cX5_firstFault 4 (some .int)] ({ frames := 1, cells := 0, slots := 0, locals := 20 }) (va_Pc [.ref x] (kx_Pre dC dI [(x, .inr (5, [.ref xe, .ref xn, .int 0, .int 1, .int 1, .ref xso, .ref xro, .int 0, .ref xga, .ref xlo, .int (-1), .ref xse, .ref xwa, .ref xst, .ref xou, .ref xdr])), (xst, .inr (1, [.int 80, .ref xr3, .int 0]))] [] sz)) (va_Qi (fun (r : Int32) (u : Unit) => match u with | _ => r = 0) (fun (u : Unit) (t : State) => match u with | _ => kx_At dC dI (va_A [(x, .inr (5, [.ref xe, .ref xn, .int 0, .int 1, .int 1, .ref xso, .ref xro, .int 0, .ref xga, .ref xlo, .int (-1), .ref xse, .ref xwa, .ref xst, .ref xou, .ref xdr])), (xst, .inr (1, [.int 80, .ref xr3, .int 0]))] sz) [] [] t) (va_A [(x, .inr (5, [.ref xe, .ref xn, .int 0, .int 1, .int 1, .ref xso, .ref xro, .int 0, .ref xga, .ref xlo, .int (-1), .ref xse, .ref xwa, .ref xst, .ref xou, .ref xdr])), (xst, .inr (1, [.int 80, .ref xr3, .int 0]))] sz)) 0 0 (va_A [(x, .inr (5, [.ref xe, .ref xn, .int 0, .int 1, .int 1, .ref xso, .ref xro, .int 0, .ref xga, .ref xlo, .int (-1), .ref xse, .ref xwa, .ref xst, .ref xou, .ref xdr])), (xst, .inr (1, [.int 80, .ref xr3, .int 0]))] sz) := by
  refine Met.ofW (cc := cX5_firstFault) (maxL := 4) (ret := (some .int)) (by decide) rfl ?_
  intro p e s m args below meth c s₁ B hml hv
  obtain ⟨rfl, hsz, hP, hK, hD0, hG, hZ⟩ := hv
  have hx := B.exec
  have hb := B.bytes
  have hr := B.returns
  have hts := kx_hts (a := #[.ref x]) hG
  have hown : s.vm.findClass RX5 = some m.cls := findClass_of_methodNamed B.named
  have hlocks := B.notSynchronized
  subst hsz
  have hD := hD0.self (sz := s.heap.size)
  generalize hAe : va_A [(x, .inr (5, [.ref xe, .ref xn, .int 0, .int 1, .int 1, .ref xso, .ref xro, .int 0, .ref xga, .ref xlo, .int (-1), .ref xse, .ref xwa, .ref xst, .ref xou, .ref xdr])), (xst, .inr (1, [.int 80, .ref xr3, .int 0]))] s.heap.size = A at hD hZ ⊢
  have hA : ∀ q : Nat, s.heap.size ≤ q → A q := fun q h => by rw [← hAe]; exact Or.inr h
  have hS : va_S A s.heap s.heap [] := va_S.rf
  have hP : va_P (dC, dI) kxCl [(x, .inr (5, [.ref xe, .ref xn, .int 0, .int 1, .int 1, .ref xso, .ref xro, .int 0, .ref xga, .ref xlo, .int (-1), .ref xse, .ref xwa, .ref xst, .ref xou, .ref xdr])), (xst, .inr (1, [.int 80, .ref xr3, .int 0]))] s.heap := hP
  have hl := lv_entry ([.ref x]) (n := 4) (Nat.le_of_ble_eq_true rfl)
  rw [lg_entry_eq]
  generalize (lg_sl ([.ref x]) ++ List.replicate (4 - (lg_sl ([.ref x])).length) Slot.unset).toArray = ls at hl ⊢
  have hl : lv_has ls 4 [(0, .ref x)] := hl
  refine lv_iconst (v := 0) hx hb dX5_firstFault_0 (by decide) ?_
  refine lv_istore_n (lv' := [(1, .int 0), (0, .ref x)]) hx hb dX5_firstFault_1 rfl hl (by decide) rfl (fun ls hl => ?_)
  refine lv_iconst (v := 0) hx hb dX5_firstFault_2 (by decide) ?_
  refine lv_istore_n (lv' := [(2, .int 0), (1, .int 0), (0, .ref x)]) hx hb dX5_firstFault_3 rfl hl (by decide) rfl (fun ls hl => ?_)
  refine lv_iload_n hx hb dX5_firstFault_4 rfl (lv_at hl 0 rfl) ?_
  refine lv_aload_n hx hb dX5_firstFault_5 rfl (lv_at hl 2 rfl) ?_
  refine va_get (D := (dC, dI)) (ci := 5) (v := .ref xst) (C := RX5) (T := TX5) (N := 16) hx hb hts kt_X5 hown hK hP 0 rfl rfl 13 (by decide) (kx_word hG kq_80 rfl) (fun _ h9 => h9) rfl dX5_firstFault_6 ?_
  have hPc := hP.sub (ws' := [(xst, .inr (1, [.int 80, .ref xr3, .int 0]))]) [1] rfl
  have hDc := hD.sub (ws' := [(xst, .inr (1, [.int 80, .ref xr3, .int 0]))]) [1] (by decide) rfl
  have hKc := hK.sub (tys' := []) [] rfl
  have hFc := va_free (wc := [(xst, .inr (1, [.int 80, .ref xr3, .int 0]))]) hD hS hA [1] rfl
  refine va_calli (va_runV (As := []) (rest := [.int 0]) ⟨hx, hb, hml, hown, hts⟩ (c_Ints_size l hlf dC dI xst 80 xr3 0 s.heap.size ) (cwV 0 hts (kx_gV kq_114 kq_115 kq_116 kq_21 kq_117 rfl) rfl rfl rfl (by decide +kernel) ⟨Nat.le_of_ble_eq_true rfl, Nat.le_of_ble_eq_true rfl⟩) ⟨kx_blind, va_recv hKc hPc (ci := 1) (q0 := 0) rfl rfl, kx_give (ws := []) (tys := []) hPc hDc hKc hG hZ hS hFc⟩ rfl rfl hl.1 rfl (lv_room (Nat.le_of_ble_eq_true rfl)) dX5_firstFault_9 ⟨Nat.le_of_ble_eq_true rfl, Nat.le_of_ble_eq_true rfl⟩) hS (fun q _ h => hFc q h) hFc (fun r_1 u t H1 locs ht hvm hw_2 hB hz1 hk1 hS => ?_)
  obtain ⟨hP1, hK1, hD1⟩ := hB
  rw [ht] at hP1
  have hK1 := va_K.moved hvm.symm hK1
  try dsimp only at hw_2
  obtain ⟨hP, hD⟩ := va_join (wr := [(x, .inr (5, [.ref xe, .ref xn, .int 0, .int 1, .int 1, .ref xso, .ref xro, .int 0, .ref xga, .ref xlo, .int (-1), .ref xse, .ref xwa, .ref xst, .ref xou, .ref xdr]))]) (w1 := [(xst, .inr (1, [.int 80, .ref xr3, .int 0]))]) hP hD [1] [0] rfl rfl (by decide) (by decide) hk1 hFc hP1 hD1
  have hK := (hK.sub (tys' := []) [] rfl).app hK1
  generalize H1 = H at hP hS ⊢
  have hP : va_P (dC, dI) kxCl [(x, .inr (5, [.ref xe, .ref xn, .int 0, .int 1, .int 1, .ref xso, .ref xro, .int 0, .ref xga, .ref xlo, .int (-1), .ref xse, .ref xwa, .ref xst, .ref xou, .ref xdr])), (xst, .inr (1, [.int 80, .ref xr3, .int 0]))] H := hP
  have hD : va_D A [(x, .inr (5, [.ref xe, .ref xn, .int 0, .int 1, .int 1, .ref xso, .ref xro, .int 0, .ref xga, .ref xlo, .int (-1), .ref xse, .ref xwa, .ref xst, .ref xou, .ref xdr])), (xst, .inr (1, [.int 80, .ref xr3, .int 0]))] := hD
  have hK : va_K (dC, dI) kxCl [] s := hK
  subst hw_2
  refine lv_icmp_ge (tgt := 76) hx hb dX5_firstFault_12 (by decide) (fun c_3 => ?_) (fun c_3 => ?_)
  · skip
    refine lv_iload_n hx hb dX5_firstFault_76 rfl (lv_at hl 1 rfl) ?_
    refine lv_iconst (v := 3) hx hb dX5_firstFault_77 (by decide) ?_
    refine lv_icmp_ge (tgt := 91) hx hb dX5_firstFault_78 (by decide) (fun c_4 => ?_) (fun c_4 => ?_)
    · exact absurd c_4 (by decide)
    · skip
      refine lv_aload_n hx hb dX5_firstFault_81 rfl (lv_at hl 2 rfl) ?_
      refine va_get (D := (dC, dI)) (ci := 5) (v := .ref xst) (C := RX5) (T := TX5) (N := 16) hx hb hts kt_X5 hown hK hP 0 rfl rfl 13 (by decide) (kx_word hG kq_80 rfl) (fun _ h9 => h9) rfl dX5_firstFault_82 ?_
      have hPc := hP.sub (ws' := [(xst, .inr (1, [.int 80, .ref xr3, .int 0]))]) [1] rfl
      have hDc := hD.sub (ws' := [(xst, .inr (1, [.int 80, .ref xr3, .int 0]))]) [1] (by decide) rfl
      have hKc := hK.sub (tys' := []) [] rfl
      have hFc := va_free (wc := [(xst, .inr (1, [.int 80, .ref xr3, .int 0]))]) hD hS hA [1] rfl
      refine va_calli (va_runV (As := []) (rest := []) ⟨hx, hb, hml, hown, hts⟩ (c_Ints_size l hlf dC dI xst 80 xr3 0 H.size ) (cwV 0 hts (kx_gV kq_114 kq_115 kq_116 kq_21 kq_117 rfl) rfl rfl rfl (by decide +kernel) ⟨Nat.le_of_ble_eq_true rfl, Nat.le_of_ble_eq_true rfl⟩) ⟨kx_blind, va_recv hKc hPc (ci := 1) (q0 := 0) rfl rfl, kx_give (ws := []) (tys := []) hPc hDc hKc hG hZ hS hFc⟩ rfl rfl hl.1 rfl (lv_room (Nat.le_of_ble_eq_true rfl)) dX5_firstFault_85 ⟨Nat.le_of_ble_eq_true rfl, Nat.le_of_ble_eq_true rfl⟩) hS (fun q _ h => hFc q h) hFc (fun r_5 u t H1 locs ht hvm hw_6 hB hz1 hk1 hS => ?_)
      obtain ⟨hP1, hK1, hD1⟩ := hB
      rw [ht] at hP1
      have hK1 := va_K.moved hvm.symm hK1
      try dsimp only at hw_6
      obtain ⟨hP, hD⟩ := va_join (wr := [(x, .inr (5, [.ref xe, .ref xn, .int 0, .int 1, .int 1, .ref xso, .ref xro, .int 0, .ref xga, .ref xlo, .int (-1), .ref xse, .ref xwa, .ref xst, .ref xou, .ref xdr]))]) (w1 := [(xst, .inr (1, [.int 80, .ref xr3, .int 0]))]) hP hD [1] [0] rfl rfl (by decide) (by decide) hk1 hFc hP1 hD1
      have hK := (hK.sub (tys' := []) [] rfl).app hK1
      generalize H1 = H at hP hS ⊢
      have hP : va_P (dC, dI) kxCl [(x, .inr (5, [.ref xe, .ref xn, .int 0, .int 1, .int 1, .ref xso, .ref xro, .int 0, .ref xga, .ref xlo, .int (-1), .ref xse, .ref xwa, .ref xst, .ref xou, .ref xdr])), (xst, .inr (1, [.int 80, .ref xr3, .int 0]))] H := hP
      have hD : va_D A [(x, .inr (5, [.ref xe, .ref xn, .int 0, .int 1, .int 1, .ref xso, .ref xro, .int 0, .ref xga, .ref xlo, .int (-1), .ref xse, .ref xwa, .ref xst, .ref xou, .ref xdr])), (xst, .inr (1, [.int 80, .ref xr3, .int 0]))] := hD
      have hK : va_K (dC, dI) kxCl [] s := hK
      subst hw_6
      refine lv_goto (tgt := 92) hx hb dX5_firstFault_88 (by decide) ?_
      have hP9 := hP.sub (ws' := []) [] rfl
      have hD9 := hD.sub (ws' := []) [] (by decide) rfl
      have hK9 := hK.sub (tys' := []) [] rfl
      exact W.iret (v := 0) hx hb hr (fun t ht hW => ⟨⟨0, (), rfl, rfl, by rw [ht]; exact hP9, va_K.moved hW.alike hK9, hD9⟩, hS.F ht⟩) hS.2.2 dX5_firstFault_92
  · exact absurd c_3 (by decide)
set_option maxHeartbeats 4000000 in
set_option maxRecDepth 100000 in
theorem c_print (l : Launch) (hlf : l.stackTraces = false) (dC : Nat → ClassId) (dI : Nat → Nat → Nat) (x : Nat) (xe : Nat) (xn : Nat) (xso : Nat) (xro : Nat) (xga : Nat) (xlo : Nat) (xse : Nat) (xwa : Nat) (xst : Nat) (xou : Nat) (xdr : Nat) (xr3 : Nat) (sz : Nat) : Met l yX5_print [.code yX5_print cX5_print 7 (some .int)] ({ frames := 2, cells := 0, slots := 0, locals := 43 }) (va_Pc [.ref x] (kx_Pre dC dI [(x, .inr (5, [.ref xe, .ref xn, .int 0, .int 1, .int 1, .ref xso, .ref xro, .int 0, .ref xga, .ref xlo, .int (-1), .ref xse, .ref xwa, .ref xst, .ref xou, .ref xdr])), (xst, .inr (1, [.int 80, .ref xr3, .int 0]))] [] sz)) (va_Qi (fun (r : Int32) (u : Unit) => match u with | _ => r = -1) (fun (u : Unit) (t : State) => match u with | _ => kx_At dC dI (va_A [(x, .inr (5, [.ref xe, .ref xn, .int 0, .int 1, .int 1, .ref xso, .ref xro, .int 0, .ref xga, .ref xlo, .int (-1), .ref xse, .ref xwa, .ref xst, .ref xou, .ref xdr])), (xst, .inr (1, [.int 80, .ref xr3, .int 0]))] sz) [] [] t) (va_A [(x, .inr (5, [.ref xe, .ref xn, .int 0, .int 1, .int 1, .ref xso, .ref xro, .int 0, .ref xga, .ref xlo, .int (-1), .ref xse, .ref xwa, .ref xst, .ref xou, .ref xdr])), (xst, .inr (1, [.int 80, .ref xr3, .int 0]))] sz)) 0 0 (va_A [(x, .inr (5, [.ref xe, .ref xn, .int 0, .int 1, .int 1, .ref xso, .ref xro, .int 0, .ref xga, .ref xlo, .int (-1), .ref xse, .ref xwa, .ref xst, .ref xou, .ref xdr])), (xst, .inr (1, [.int 80, .ref xr3, .int 0]))] sz) := by
  refine Met.ofW (cc := cX5_print) (maxL := 7) (ret := (some .int)) (by decide) rfl ?_
  intro p e s m args below meth c s₁ B hml hv
  obtain ⟨rfl, hsz, hP, hK, hD0, hG, hZ⟩ := hv
  have hx := B.exec
  have hb := B.bytes
  have hr := B.returns
  have hts := kx_hts (a := #[.ref x]) hG
  have hown : s.vm.findClass RX5 = some m.cls := findClass_of_methodNamed B.named
  have hlocks := B.notSynchronized
  subst hsz
  have hD := hD0.self (sz := s.heap.size)
  generalize hAe : va_A [(x, .inr (5, [.ref xe, .ref xn, .int 0, .int 1, .int 1, .ref xso, .ref xro, .int 0, .ref xga, .ref xlo, .int (-1), .ref xse, .ref xwa, .ref xst, .ref xou, .ref xdr])), (xst, .inr (1, [.int 80, .ref xr3, .int 0]))] s.heap.size = A at hD hZ ⊢
  have hA : ∀ q : Nat, s.heap.size ≤ q → A q := fun q h => by rw [← hAe]; exact Or.inr h
  have hS : va_S A s.heap s.heap [] := va_S.rf
  have hP : va_P (dC, dI) kxCl [(x, .inr (5, [.ref xe, .ref xn, .int 0, .int 1, .int 1, .ref xso, .ref xro, .int 0, .ref xga, .ref xlo, .int (-1), .ref xse, .ref xwa, .ref xst, .ref xou, .ref xdr])), (xst, .inr (1, [.int 80, .ref xr3, .int 0]))] s.heap := hP
  have hl := lv_entry ([.ref x]) (n := 7) (Nat.le_of_ble_eq_true rfl)
  rw [lg_entry_eq]
  generalize (lg_sl ([.ref x]) ++ List.replicate (7 - (lg_sl ([.ref x])).length) Slot.unset).toArray = ls at hl ⊢
  have hl : lv_has ls 7 [(0, .ref x)] := hl
  refine lv_aload_n hx hb dX5_print_0 rfl (lv_at hl 0 rfl) ?_
  have hPc := hP.sub (ws' := [(x, .inr (5, [.ref xe, .ref xn, .int 0, .int 1, .int 1, .ref xso, .ref xro, .int 0, .ref xga, .ref xlo, .int (-1), .ref xse, .ref xwa, .ref xst, .ref xou, .ref xdr])), (xst, .inr (1, [.int 80, .ref xr3, .int 0]))]) [0, 1] rfl
  have hDc := hD.sub (ws' := [(x, .inr (5, [.ref xe, .ref xn, .int 0, .int 1, .int 1, .ref xso, .ref xro, .int 0, .ref xga, .ref xlo, .int (-1), .ref xse, .ref xwa, .ref xst, .ref xou, .ref xdr])), (xst, .inr (1, [.int 80, .ref xr3, .int 0]))]) [0, 1] (by decide) rfl
  have hKc := hK.sub (tys' := []) [] rfl
  have hFc := va_free (wc := [(x, .inr (5, [.ref xe, .ref xn, .int 0, .int 1, .int 1, .ref xso, .ref xro, .int 0, .ref xga, .ref xlo, .int (-1), .ref xse, .ref xwa, .ref xst, .ref xou, .ref xdr])), (xst, .inr (1, [.int 80, .ref xr3, .int 0]))]) hD hS hA [0, 1] rfl
  refine va_calli (va_runV (As := []) (rest := []) ⟨hx, hb, hml, hown, hts⟩ (c_firstFault l hlf dC dI x xe xn xso xro xga xlo xse xwa xst xou xdr xr3 s.heap.size ) (cwV 0 hts (kx_gV kq_160 kq_161 kq_162 kq_92 kq_163 rfl) rfl rfl rfl (by decide +kernel) ⟨Nat.le_of_ble_eq_true rfl, Nat.le_of_ble_eq_true rfl⟩) ⟨kx_blind, va_recv hKc hPc (ci := 5) (q0 := 0) rfl rfl, kx_give (ws := []) (tys := []) hPc hDc hKc hG hZ hS hFc⟩ rfl rfl hl.1 rfl (lv_room (Nat.le_of_ble_eq_true rfl)) dX5_print_1 ⟨Nat.le_of_ble_eq_true rfl, Nat.le_of_ble_eq_true rfl⟩) hS (fun q _ h => hFc q h) hFc (fun r_1 u t H1 locs ht hvm hw_2 hB hz1 hk1 hS => ?_)
  obtain ⟨hP1, hK1, hD1⟩ := hB
  rw [ht] at hP1
  have hK1 := va_K.moved hvm.symm hK1
  try dsimp only at hw_2
  obtain ⟨hP, hD⟩ := va_join (wr := []) (w1 := []) hP hD [0, 1] [] rfl rfl (by decide) (by decide) hk1 hFc hP1 hD1
  have hK := (hK.sub (tys' := []) [] rfl).app hK1
  generalize H1 = H at hP hS ⊢
  have hP : va_P (dC, dI) kxCl [] H := hP
  have hD : va_D A [] := hD
  have hK : va_K (dC, dI) kxCl [] s := hK
  subst hw_2
  refine lv_istore_n (lv' := [(1, .int 0), (0, .ref x)]) hx hb dX5_print_4 rfl hl (by decide) rfl (fun ls hl => ?_)
  refine lv_iload_n hx hb dX5_print_5 rfl (lv_at hl 0 rfl) ?_
  refine lv_if_lt (tgt := 13) hx hb dX5_print_6 (by decide) (fun c_3 => ?_) (fun c_3 => ?_)
  · exact absurd c_3 (by decide)
  · skip
    refine lv_iconst (v := (-1)) hx hb dX5_print_9 (by decide) ?_
    refine lv_iload_n hx hb dX5_print_10 rfl (lv_at hl 0 rfl) ?_
    refine lv_isub hx hb dX5_print_11 ?_
    refine lv_topi (fun x_4 ex_4 => ?_)
    obtain rfl : x_4 = (-1) := ex_4.trans (by decide)
    have hP9 := hP.sub (ws' := []) [] rfl
    have hD9 := hD.sub (ws' := []) [] (by decide) rfl
    have hK9 := hK.sub (tys' := []) [] rfl
    exact W.iret (v := (-1)) hx hb hr (fun t ht hW => ⟨⟨(-1), (), rfl, rfl, by rw [ht]; exact hP9, va_K.moved hW.alike hK9, hD9⟩, hS.F ht⟩) hS.2.2 dX5_print_12
set_option maxHeartbeats 4000000 in
set_option maxRecDepth 100000 in
theorem c_at (l : Launch) (hlf : l.stackTraces = false) (dC : Nat → ClassId) (dI : Nat → Nat → Nat) (x : Nat) (xe : Nat) (xn : Nat) (xso : Nat) (xro : Nat) (xga : Nat) (xlo : Nat) (xse : Nat) (xwa : Nat) (xst : Nat) (xou : Nat) (xdr : Nat) (xr4 : Nat) (p0 : Int32) (sz : Nat) : vx_Met l yX5_at [.code yX5_at cX5_at 2 (some .int)] ({ frames := 7, cells := 1, slots := 6, locals := 100 }) (va_Pc [.ref x, .int p0] (kx_Pre dC dI [(x, .inr (5, [.ref xe, .ref xn, .int 0, .int 1, .int 1, .ref xso, .ref xro, .int 0, .ref xga, .ref xlo, .int (-1), .ref xse, .ref xwa, .ref xst, .ref xou, .ref xdr])), (xou, .inr (2, [.ref xr4, .int 0, .int 0]))] [] sz)) (va_Qi (fun (r : Int32) (u : Unit) => match u with | _ => False) (fun (u : Unit) (t : State) => match u with | _ => kx_At dC dI (va_A [(x, .inr (5, [.ref xe, .ref xn, .int 0, .int 1, .int 1, .ref xso, .ref xro, .int 0, .ref xga, .ref xlo, .int (-1), .ref xse, .ref xwa, .ref xst, .ref xou, .ref xdr])), (xou, .inr (2, [.ref xr4, .int 0, .int 0]))] sz) [] [] t) (va_A [(x, .inr (5, [.ref xe, .ref xn, .int 0, .int 1, .int 1, .ref xso, .ref xro, .int 0, .ref xga, .ref xlo, .int (-1), .ref xse, .ref xwa, .ref xst, .ref xou, .ref xdr])), (xou, .inr (2, [.ref xr4, .int 0, .int 0]))] sz)) (vx_X (fun _ : Unit => True) (fun E _ _ => E = "java/lang/ArrayIndexOutOfBoundsException") (va_A [(x, .inr (5, [.ref xe, .ref xn, .int 0, .int 1, .int 1, .ref xso, .ref xro, .int 0, .ref xga, .ref xlo, .int (-1), .ref xse, .ref xwa, .ref xst, .ref xou, .ref xdr])), (xou, .inr (2, [.ref xr4, .int 0, .int 0]))] sz)) 1 6 (va_A [(x, .inr (5, [.ref xe, .ref xn, .int 0, .int 1, .int 1, .ref xso, .ref xro, .int 0, .ref xga, .ref xlo, .int (-1), .ref xse, .ref xwa, .ref xst, .ref xou, .ref xdr])), (xou, .inr (2, [.ref xr4, .int 0, .int 0]))] sz) := by
  refine vx_ofW (cc := cX5_at) (maxL := 2) (ret := (some .int)) (by decide) rfl ?_
  intro p e s m args below meth c s₁ B hml htab hv
  obtain ⟨rfl, hsz, hP, hK, hD0, hG, hZ⟩ := hv
  have hx := B.exec
  have hb := B.bytes
  have hr := B.returns
  have hts := kx_hts (a := #[.ref x, .int p0]) hG
  have hown : s.vm.findClass RX5 = some m.cls := findClass_of_methodNamed B.named
  have hlocks := B.notSynchronized
  subst hsz
  have hD := hD0.self (sz := s.heap.size)
  generalize hAe : va_A [(x, .inr (5, [.ref xe, .ref xn, .int 0, .int 1, .int 1, .ref xso, .ref xro, .int 0, .ref xga, .ref xlo, .int (-1), .ref xse, .ref xwa, .ref xst, .ref xou, .ref xdr])), (xou, .inr (2, [.ref xr4, .int 0, .int 0]))] s.heap.size = A at hD hZ ⊢
  have hA : ∀ q : Nat, s.heap.size ≤ q → A q := fun q h => by rw [← hAe]; exact Or.inr h
  have hS : va_S A s.heap s.heap [] := va_S.rf
  have hP : va_P (dC, dI) kxCl [(x, .inr (5, [.ref xe, .ref xn, .int 0, .int 1, .int 1, .ref xso, .ref xro, .int 0, .ref xga, .ref xlo, .int (-1), .ref xse, .ref xwa, .ref xst, .ref xou, .ref xdr])), (xou, .inr (2, [.ref xr4, .int 0, .int 0]))] s.heap := hP
  have hl := lv_entry ([.ref x, .int p0]) (n := 2) (Nat.le_of_ble_eq_true rfl)
  rw [lg_entry_eq]
  generalize (lg_sl ([.ref x, .int p0]) ++ List.replicate (2 - (lg_sl ([.ref x, .int p0])).length) Slot.unset).toArray = ls at hl ⊢
  have hl : lv_has ls 2 [(0, .ref x), (1, .int p0)] := hl
  refine lv_iload_n hx hb dX5_at_0 rfl (lv_at hl 1 rfl) ?_
  refine lv_if_lt (tgt := 15) hx hb dX5_at_1 (by decide) (fun c_1 => ?_) (fun c_1 => ?_)
  · skip
    exact kx_thr_AOB hx hb hlf hown hG hZ hS (hl.1.trans hml.symm) dX5_at_15 dX5_at_18 dX5_at_19 dX5_at_22 htab (Nat.le_of_ble_eq_true rfl) (Nat.le_of_ble_eq_true rfl) (Nat.le_of_ble_eq_true rfl) (Nat.le_of_ble_eq_true rfl) hlocks (fun t hvm hF => ⟨(), trivial, rfl, hF⟩) hS.2.2 (by omega) (by omega)
  · skip
    refine lv_iload_n hx hb dX5_at_4 rfl (lv_at hl 1 rfl) ?_
    refine lv_aload_n hx hb dX5_at_5 rfl (lv_at hl 0 rfl) ?_
    refine va_get (D := (dC, dI)) (ci := 5) (v := .ref xou) (C := RX5) (T := TX5) (N := 16) hx hb hts kt_X5 hown hK hP 0 rfl rfl 14 (by decide) (kx_word hG kq_87 rfl) (fun _ h9 => h9) rfl dX5_at_6 ?_
    have hPc := hP.sub (ws' := [(xou, .inr (2, [.ref xr4, .int 0, .int 0]))]) [1] rfl
    have hDc := hD.sub (ws' := [(xou, .inr (2, [.ref xr4, .int 0, .int 0]))]) [1] (by decide) rfl
    have hKc := hK.sub (tys' := []) [] rfl
    have hFc := va_free (wc := [(xou, .inr (2, [.ref xr4, .int 0, .int 0]))]) hD hS hA [1] rfl
    refine va_calli (va_runV (As := []) (rest := [.int p0]) ⟨hx, hb, hml, hown, hts⟩ (c_Paper_size l hlf dC dI xou xr4 s.heap.size ) (cwV 0 hts (kx_gV kq_164 kq_165 kq_166 kq_83 kq_167 rfl) rfl rfl rfl (by decide +kernel) ⟨Nat.le_of_ble_eq_true rfl, Nat.le_of_ble_eq_true rfl⟩) ⟨kx_blind, va_recv hKc hPc (ci := 2) (q0 := 0) rfl rfl, kx_give (ws := []) (tys := []) hPc hDc hKc hG hZ hS hFc⟩ rfl rfl hl.1 rfl (lv_room (Nat.le_of_ble_eq_true rfl)) dX5_at_9 ⟨Nat.le_of_ble_eq_true rfl, Nat.le_of_ble_eq_true rfl⟩) hS (fun q _ h => hFc q h) hFc (fun r_2 u t H1 locs ht hvm hw_3 hB hz1 hk1 hS => ?_)
    obtain ⟨hP1, hK1, hD1⟩ := hB
    rw [ht] at hP1
    have hK1 := va_K.moved hvm.symm hK1
    try dsimp only at hw_3
    obtain ⟨hP, hD⟩ := va_join (wr := [(x, .inr (5, [.ref xe, .ref xn, .int 0, .int 1, .int 1, .ref xso, .ref xro, .int 0, .ref xga, .ref xlo, .int (-1), .ref xse, .ref xwa, .ref xst, .ref xou, .ref xdr]))]) (w1 := [(xou, .inr (2, [.ref xr4, .int 0, .int 0]))]) hP hD [1] [0] rfl rfl (by decide) (by decide) hk1 hFc hP1 hD1
    have hK := (hK.sub (tys' := []) [] rfl).app hK1
    generalize H1 = H at hP hS ⊢
    have hP : va_P (dC, dI) kxCl [(x, .inr (5, [.ref xe, .ref xn, .int 0, .int 1, .int 1, .ref xso, .ref xro, .int 0, .ref xga, .ref xlo, .int (-1), .ref xse, .ref xwa, .ref xst, .ref xou, .ref xdr])), (xou, .inr (2, [.ref xr4, .int 0, .int 0]))] H := hP
    have hD : va_D A [(x, .inr (5, [.ref xe, .ref xn, .int 0, .int 1, .int 1, .ref xso, .ref xro, .int 0, .ref xga, .ref xlo, .int (-1), .ref xse, .ref xwa, .ref xst, .ref xou, .ref xdr])), (xou, .inr (2, [.ref xr4, .int 0, .int 0]))] := hD
    have hK : va_K (dC, dI) kxCl [] s := hK
    subst hw_3
    refine lv_icmp_lt (tgt := 23) hx hb dX5_at_12 (by decide) (fun c_4 => ?_) (fun c_4 => ?_)
    · exact absurd (kz_nn c_1) (Int32.not_le.mpr c_4)
    · skip
      exact kx_thr_AOB hx hb hlf hown hG hZ hS (hl.1.trans hml.symm) dX5_at_15 dX5_at_18 dX5_at_19 dX5_at_22 htab (Nat.le_of_ble_eq_true rfl) (Nat.le_of_ble_eq_true rfl) (Nat.le_of_ble_eq_true rfl) (Nat.le_of_ble_eq_true rfl) hlocks (fun t hvm hF => ⟨(), trivial, rfl, hF⟩) hS.2.2 (by omega) (by omega)
