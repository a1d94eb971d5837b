/-! the reference's state: I its ints by their slots, F its arrays by their slots -/
abbrev mW (mo : Nat) (ma : Nat → Nat) (cs : Nat → ClassId) (I : Nat → Int) (F : Nat → Int → Int) : va_W := [(mo, .inr (6, [.int (iz (I 0)), .int (iz (I 1)), .ref (ma 2), .ref (ma 3), .ref (ma 4), .ref (ma 5), .ref (ma 6), .ref (ma 7), .ref (ma 8), .ref (ma 9), .ref (ma 10), .ref (ma 11), .ref (ma 12), .ref (ma 13), .int (iz (I 14)), .int (iz (I 15)), .int (iz (I 16)), .ref (ma 17), .ref (ma 18), .int (iz (I 19)), .ref (ma 20), .ref (ma 21), .ref (ma 22), .ref (ma 23), .ref (ma 24), .ref (ma 25), .ref (ma 26), .ref (ma 27), .ref (ma 28), .int (iz (I 29)), .int (iz (I 30)), .int (iz (I 31)), .int (iz (I 32)), .int (iz (I 33)), .ref (ma 34), .int (iz (I 35)), .ref (ma 36), .int (iz (I 37)), .ref (ma 38), .ref (ma 39), .int (iz (I 40)), .ref (ma 41), .int (iz (I 42)), .int (iz (I 43))])), (ma 2, .inl (cs 2, 80, .inl (iA (F 2)))), (ma 3, .inl (cs 3, 80, .inl (iA (F 3)))), (ma 4, .inl (cs 4, 1600, .inl (iA (F 4)))), (ma 5, .inl (cs 5, 80, .inl (iA (F 5)))), (ma 6, .inl (cs 6, 1600, .inl (iA (F 6)))), (ma 7, .inl (cs 7, 1600, .inl (iA (F 7)))), (ma 8, .inl (cs 8, 1600, .inl (iA (F 8)))), (ma 9, .inl (cs 9, 1600, .inl (iA (F 9)))), (ma 10, .inl (cs 10, 80, .inl (iA (F 10)))), (ma 11, .inl (cs 11, 80, .inl (iA (F 11)))), (ma 12, .inl (cs 12, 400, .inl (iA (F 12)))), (ma 13, .inl (cs 13, 80, .inl (iA (F 13)))), (ma 17, .inl (cs 17, 80, .inl (iA (F 17)))), (ma 18, .inl (cs 18, 80, .inl (iA (F 18)))), (ma 20, .inl (cs 20, 2, .inl (iA (F 20)))), (ma 21, .inl (cs 21, 2, .inl (iA (F 21)))), (ma 22, .inl (cs 22, 2, .inl (iA (F 22)))), (ma 23, .inl (cs 23, 2, .inl (iA (F 23)))), (ma 24, .inl (cs 24, 2, .inl (iA (F 24)))), (ma 25, .inl (cs 25, 1700, .inl (iA (F 25)))), (ma 26, .inl (cs 26, 1700, .inl (iA (F 26)))), (ma 27, .inl (cs 27, 1700, .inl (iA (F 27)))), (ma 28, .inl (cs 28, 1700, .inl (iA (F 28)))), (ma 34, .inl (cs 34, 80, .inl (iA (F 34)))), (ma 36, .inl (cs 36, 80, .inl (iA (F 36)))), (ma 38, .inl (cs 38, 4, .inl (iA (F 38)))), (ma 39, .inl (cs 39, 6000, .inl (iA (F 39)))), (ma 41, .inl (cs 41, 6000, .inl (iA (F 41))))]
abbrev mT (cs : Nat → ClassId) : List (ClassId × FieldType) := [(cs 2, .int), (cs 3, .int), (cs 4, .int), (cs 5, .int), (cs 6, .int), (cs 7, .int), (cs 8, .int), (cs 9, .boolean), (cs 10, .int), (cs 11, .int), (cs 12, .int), (cs 13, .int), (cs 17, .int), (cs 18, .int), (cs 20, .int), (cs 21, .boolean), (cs 22, .int), (cs 23, .int), (cs 24, .int), (cs 25, .int), (cs 26, .int), (cs 27, .int), (cs 28, .boolean), (cs 34, .int), (cs 36, .int), (cs 38, .int), (cs 39, .byte), (cs 41, .byte)]
abbrev mPre (dC : Nat → ClassId) (dI : Nat → Nat → Nat) (mo : Nat) (ma : Nat → Nat) (cs : Nat → ClassId) (I : Nat → Int) (F : Nat → Int → Int) (sz : Nat) (av : List Value) : Array Value → State → Prop := va_Pc av (kx_Pre dC dI (mW mo ma cs I F) (mT cs) sz)
abbrev mQi (dC : Nat → ClassId) (dI : Nat → Nat → Nat) (mo : Nat) (ma : Nat → Nat) (cs : Nat → ClassId) (A : Nat → Prop) (post : Int → (Nat → Int) → (Nat → Int → Int) → Prop) : Array Value → State → Outcome → State → Prop := va_Qi (fun (r : Int32) (u : Int × (Nat → Int) × (Nat → Int → Int)) => r = iz u.1 ∧ post u.1 u.2.1 u.2.2) (fun u t => kx_At dC dI A (mW mo ma cs u.2.1 u.2.2) (mT cs) t) A
abbrev mQv (dC : Nat → ClassId) (dI : Nat → Nat → Nat) (mo : Nat) (ma : Nat → Nat) (cs : Nat → ClassId) (A : Nat → Prop) (post : (Nat → Int) → (Nat → Int → Int) → Prop) : Array Value → State → Outcome → State → Prop := va_Qv (fun (u : (Nat → Int) × (Nat → Int → Int)) => post u.1 u.2) (fun u t => kx_At dC dI A (mW mo ma cs u.1 u.2) (mT cs) t) A
/-- a method of the reference: from I, F; its answer and what I, F are behind it -/
abbrev mMi (l : Launch) (y : MethodName) (w : Cond) (fr lo : Nat) (dC : Nat → ClassId) (dI : Nat → Nat → Nat) (mo : Nat) (ma : Nat → Nat) (cs : Nat → ClassId) (I : Nat → Int) (F : Nat → Int → Int) (av : List Value) (sz : Nat) (post : Int → (Nat → Int) → (Nat → Int → Int) → Prop) : Prop :=
  Met l y [w] ({ frames := fr, cells := 0, slots := 0, locals := lo }) (mPre dC dI mo ma cs I F sz av) (mQi dC dI mo ma cs (va_A (mW mo ma cs I F) sz) post) 0 0 (va_A (mW mo ma cs I F) sz)
abbrev mMv (l : Launch) (y : MethodName) (w : Cond) (fr lo : Nat) (dC : Nat → ClassId) (dI : Nat → Nat → Nat) (mo : Nat) (ma : Nat → Nat) (cs : Nat → ClassId) (I : Nat → Int) (F : Nat → Int → Int) (av : List Value) (sz : Nat) (post : (Nat → Int) → (Nat → Int → Int) → Prop) : Prop :=
  Met l y [w] ({ frames := fr, cells := 0, slots := 0, locals := lo }) (mPre dC dI mo ma cs I F sz av) (mQv dC dI mo ma cs (va_A (mW mo ma cs I F) sz) post) 0 0 (va_A (mW mo ma cs I F) sz)
/-- a static method that looks at nothing but its numbers -/
abbrev mMs (l : Launch) (y : MethodName) (w : Cond) (fr lo : Nat) (dC : Nat → ClassId) (dI : Nat → Nat → Nat) (av : List Value) (sz : Nat) (post : Int → Prop) : Prop :=
  Met l y [w] ({ frames := fr, cells := 0, slots := 0, locals := lo }) (va_Pc av (kx_Pre dC dI [] [] sz)) (va_Qi (fun (r : Int32) (u : Int) => r = iz u ∧ post u) (fun _ t => kx_At dC dI (va_A [] sz) [] [] t) (va_A [] sz)) 0 0 (va_A [] sz)
section MK
variable {p : Program} {l : Launch} {e : Env} {R : Room} {s : State} {m : MethodId} {args : Array Value} {below : List Frame} {meth : Method} {c : Code} {H : Heap} {locs : List Loc} {cells slots : Nat} {Q : State → Prop} {cc : ByteArray} {pc : Nat} {ls : Array Slot} {rest : List Value} {dC : Nat → ClassId} {dI : Nat → Nat → Nat} {mo : Nat} {ma : Nat → Nat} {cs : Nat → ClassId} {I : Nat → Int} {F : Nat → Int → Int} {A : Nat → Prop}
theorem mk_calli {y : MethodName} {w0 : Cond} {fr lo nL n index maxL : Nat} {own : String} {bytes : ByteArray} {ret : Option FieldType} {As st0 : List Value} {post : Int → (Nat → Int) → (Nat → Int → Int) → Prop}
    (S0 : CallFix p m c cc nL s args kx_T own) (hM : mMi l y w0 fr lo dC dI mo ma cs I F (.ref mo :: As) H.size post) (cw : CallW R s args own RX6 index y bytes maxL ret [w0] ({ frames := fr, cells := 0, slots := 0, locals := lo }) 0 0 n)
    (hP : va_P (dC, dI) kxCl (mW mo ma cs I F) H) (hD : va_D A (mW mo ma cs I F)) (hK : va_K (dC, dI) kxCl (mT cs) s) (hG : kx_G s) (hZ : kx_Z A s s.heap) (hS : va_S A s.heap H locs) (hA : ∀ q : Nat, s.heap.size ≤ q → A q)
    (hn : As.length = n) (hsize : ls.size = nL) (hst : st0 = As.reverse ++ .ref mo :: rest) (hW : (rest.map fun v => v.category).sum ≤ 8) (hdg : decode cc pc = .ok (.invokevirtual index, 3)) (hf : cells ≤ R.cells ∧ slots ≤ R.slots)
    (kk : ∀ (z : Int) (I' : Nat → Int) (F' : Nat → Int → Int) (H1 : Heap) (locs1 : List Loc), post z I' F' → va_P (dC, dI) kxCl (mW mo ma cs I' F') H1 → va_D A (mW mo ma cs I' F') → va_S A s.heap H1 locs1 → W p l e R s m args below meth c H1 locs1 cells slots Q (F0 m (pc + 3) ls (.int (iz z) :: rest))) :
    W p l e R s m args below meth c H locs cells slots Q (F0 m pc ls st0) := by
  have hFc := va_free (wc := mW mo ma cs I F) hD hS hA [0, 1, 2, 3, 4, 5, 6, 7, 8, 9, 10, 11, 12, 13, 14, 15, 16, 17, 18, 19, 20, 21, 22, 23, 24, 25, 26, 27, 28] rfl
  refine va_calli (va_runV (As := As) (rest := rest) S0 hM cw ⟨kx_blind, va_recv hK hP (ci := 6) (q0 := 0) rfl rfl, kx_give (ws := []) (tys := []) hP hD hK hG hZ hS hFc⟩ rfl hn hsize hst (lv_room hW) hdg hf) hS (fun q _ h => hFc q h) hFc (fun r u t H1 locs1 ht hvm hw hB hz1 hk1 hS1 => ?_)
  obtain ⟨hP1, hK1, hD1⟩ := hB
  rw [ht] at hP1
  obtain ⟨e1, hw⟩ := hw
  rw [e1]
  exact kk u.1 u.2.1 u.2.2 H1 locs1 hw hP1 (hD1.weaken (fun _ q _ h => hFc _ h)) hS1
theorem mk_callv {y : MethodName} {w0 : Cond} {fr lo nL n index maxL : Nat} {own : String} {bytes : ByteArray} {ret : Option FieldType} {As st0 : List Value} {post : (Nat → Int) → (Nat → Int → Int) → Prop}
    (S0 : CallFix p m c cc nL s args kx_T own) (hM : mMv l y w0 fr lo dC dI mo ma cs I F (.ref mo :: As) H.size post) (cw : CallW R s args own RX6 index y bytes maxL ret [w0] ({ frames := fr, cells := 0, slots := 0, locals := lo }) 0 0 n)
    (hP : va_P (dC, dI) kxCl (mW mo ma cs I F) H) (hD : va_D A (mW mo ma cs I F)) (hK : va_K (dC, dI) kxCl (mT cs) s) (hG : kx_G s) (hZ : kx_Z A s s.heap) (hS : va_S A s.heap H locs) (hA : ∀ q : Nat, s.heap.size ≤ q → A q)
    (hn : As.length = n) (hsize : ls.size = nL) (hst : st0 = As.reverse ++ .ref mo :: rest) (hW : (rest.map fun v => v.category).sum ≤ 8) (hdg : decode cc pc = .ok (.invokevirtual index, 3)) (hf : cells ≤ R.cells ∧ slots ≤ R.slots)
    (kk : ∀ (I' : Nat → Int) (F' : Nat → Int → Int) (H1 : Heap) (locs1 : List Loc), post I' F' → va_P (dC, dI) kxCl (mW mo ma cs I' F') H1 → va_D A (mW mo ma cs I' F') → va_S A s.heap H1 locs1 → W p l e R s m args below meth c H1 locs1 cells slots Q (F0 m (pc + 3) ls rest)) :
    W p l e R s m args below meth c H locs cells slots Q (F0 m pc ls st0) := by
  have hFc := va_free (wc := mW mo ma cs I F) hD hS hA [0, 1, 2, 3, 4, 5, 6, 7, 8, 9, 10, 11, 12, 13, 14, 15, 16, 17, 18, 19, 20, 21, 22, 23, 24, 25, 26, 27, 28] rfl
  refine va_callv (va_runV (As := As) (rest := rest) S0 hM cw ⟨kx_blind, va_recv hK hP (ci := 6) (q0 := 0) rfl rfl, kx_give (ws := []) (tys := []) hP hD hK hG hZ hS hFc⟩ rfl hn hsize hst (lv_room hW) hdg hf) hS (fun q _ h => hFc q h) hFc (fun u t H1 locs1 ht hvm hw hB hz1 hk1 hS1 => ?_)
  obtain ⟨hP1, hK1, hD1⟩ := hB
  rw [ht] at hP1
  exact kk u.1 u.2 H1 locs1 hw hP1 (hD1.weaken (fun _ q _ h => hFc _ h)) hS1
theorem mk_calls {y : MethodName} {w0 : Cond} {fr lo nL n index maxL : Nat} {own : String} {bytes : ByteArray} {ret : Option FieldType} {As st0 : List Value} {post : Int → Prop} {ws : va_W} {tys : List (ClassId × FieldType)}
    (S0 : CallFix p m c cc nL s args kx_T own) (hM : mMs l y w0 fr lo dC dI As H.size post) (cw : CallB R s args own index y bytes maxL ret [w0] ({ frames := fr, cells := 0, slots := 0, locals := lo }) 0 0 n ∧ (Cond.static y).before args s = true)
    (hP : va_P (dC, dI) kxCl ws H) (hD : va_D A ws) (hK : va_K (dC, dI) kxCl tys s) (hG : kx_G s) (hZ : kx_Z A s s.heap) (hS : va_S A s.heap H locs) (hA : ∀ q : Nat, s.heap.size ≤ q → A q)
    (hn : As.length = n) (hsize : ls.size = nL) (hst : st0 = As.reverse ++ rest) (hW : (rest.map fun v => v.category).sum ≤ 8) (hdg : decode cc pc = .ok (.invokestatic index, 3)) (hf : cells ≤ R.cells ∧ slots ≤ R.slots)
    (kk : ∀ (z : Int) (H1 : Heap) (locs1 : List Loc), post z → va_P (dC, dI) kxCl ws H1 → va_S A s.heap H1 locs1 → W p l e R s m args below meth c H1 locs1 cells slots Q (F0 m (pc + 3) ls (.int (iz z) :: rest))) :
    W p l e R s m args below meth c H locs cells slots Q (F0 m pc ls st0) := by
  have hPe : va_P (dC, dI) kxCl [] H := fun k q h => by simp at h
  have hDe : va_D A [] := ⟨fun i j p q h => by simp at h, fun k q h => by simp at h⟩
  have hFc : ∀ q, va_A [] H.size q → A q := va_free (wc := []) hDe hS hA [] rfl
  refine va_calli (va_runS (As := As) (rest := rest) S0 hM cw ⟨kx_blind, kx_give (ws := []) (tys := []) hPe hDe (hK.sub (tys' := []) [] rfl) hG hZ hS hFc⟩ rfl hn hsize hst (lv_room hW) hdg hf) hS (fun q _ h => hFc q h) hFc (fun r u t H1 locs1 ht hvm hw hB hz1 hk1 hS1 => ?_)
  obtain ⟨e1, hw⟩ := hw
  rw [e1]
  refine kk u H1 locs1 hw (fun k q hk => ?_) hS1
  have hlt := (hP k q hk).lt
  exact (hP k q hk).kept (hk1 q.1 hlt (fun h => by
    rcases h with ⟨k9, e9, h9⟩ | h9
    · simp at h9
    · omega))
theorem mk_ireti {z : Int} {post : Int → (Nat → Int) → (Nat → Int → Int) → Prop} (hexec : p.tables.exec = Jvm.exec) (hb : c.code = cc) (hr : meth.sig.returnType = some .int) (hlocks : meth.locks = false) (hP : va_P (dC, dI) kxCl (mW mo ma cs I F) H) (hD : va_D A (mW mo ma cs I F)) (hK : va_K (dC, dI) kxCl (mT cs) s) (hS : va_S A s.heap H locs) (hdg : decode cc pc = .ok (.ireturn, 1)) (hp : post z I F) :
    W p l e R s m args below meth c H locs cells slots (MQ below (mQi dC dI mo ma cs A post) args s cells slots A) (F0 m pc ls [.int (iz z)]) :=
  W.iret (v := iz z) hexec hb hr (fun t ht hW => ⟨⟨iz z, (z, I, F), rfl, ⟨rfl, hp⟩, by rw [ht]; exact hP, va_K.moved hW.alike hK, hD⟩, hS.F ht⟩) hS.2.2 hdg hlocks
theorem mk_iretz {z : Int} {post : Int → (Nat → Int) → (Nat → Int → Int) → Prop} (hexec : p.tables.exec = Jvm.exec) (hb : c.code = cc) (hr : meth.sig.returnType = some .boolean) (hlocks : meth.locks = false) (hP : va_P (dC, dI) kxCl (mW mo ma cs I F) H) (hD : va_D A (mW mo ma cs I F)) (hK : va_K (dC, dI) kxCl (mT cs) s) (hS : va_S A s.heap H locs) (hdg : decode cc pc = .ok (.ireturn, 1)) (h01 : z = 0 ∨ z = 1) (hp : post z I F) :
    W p l e R s m args below meth c H locs cells slots (MQ below (mQi dC dI mo ma cs A post) args s cells slots A) (F0 m pc ls [.int (iz z)]) :=
  W.zret (v := iz z) hexec hb hr (by rcases h01 with rfl | rfl <;> decide) (fun t ht hW => ⟨⟨iz z, (z, I, F), rfl, ⟨rfl, hp⟩, by rw [ht]; exact hP, va_K.moved hW.alike hK, hD⟩, hS.F ht⟩) hS.2.2 hdg hlocks
theorem mk_ret {post : (Nat → Int) → (Nat → Int → Int) → Prop} (hexec : p.tables.exec = Jvm.exec) (hb : c.code = cc) (hr : meth.sig.returnType = none) (hlocks : meth.locks = false) (hP : va_P (dC, dI) kxCl (mW mo ma cs I F) H) (hD : va_D A (mW mo ma cs I F)) (hK : va_K (dC, dI) kxCl (mT cs) s) (hS : va_S A s.heap H locs) (hdg : decode cc pc = .ok (.return_, 1)) (hp : post I F) :
    W p l e R s m args below meth c H locs cells slots (MQ below (mQv dC dI mo ma cs A post) args s cells slots A) (F0 m pc ls []) :=
  W.vret hexec hb hr (fun t ht hW => ⟨⟨(I, F), rfl, hp, by rw [ht]; exact hP, va_K.moved hW.alike hK, hD⟩, hS.F ht⟩) hS.2.2 hdg hlocks
end MK
theorem mz_bool {z : Int} (h : z = 0 ∨ z = 1) : narrow .boolean (.int (iz z)) = .int (iz z) ∧ fits .boolean (.int (iz z)) = true := by rcases h with rfl | rfl <;> decide
/-- all within an int's bounds -/
def mB (I : Nat → Int) (F : Nat → Int → Int) : Prop := (∀ k, -2147483648 ≤ I k ∧ I k < 2147483648) ∧ ∀ k j, -2147483648 ≤ F k j ∧ F k j < 2147483648
theorem mB_i {I : Nat → Int} {F : Nat → Int → Int} (h : mB I F) (k : Nat) {v : Int} (h1 : -2147483648 ≤ v) (h2 : v < 2147483648) : mB (va_up I k v) F := by
  refine ⟨fun j => ?_, h.2⟩
  unfold va_up
  by_cases e : j = k
  · rw [if_pos e]; exact ⟨h1, h2⟩
  · rw [if_neg e]; exact h.1 j
theorem mB_f {I : Nat → Int} {F : Nat → Int → Int} (h : mB I F) (k : Nat) (i : Int) {v : Int} (h1 : -2147483648 ≤ v) (h2 : v < 2147483648) : mB I (va_up F k (upI (F k) i v)) := by
  refine ⟨h.1, fun j i2 => ?_⟩
  unfold va_up
  by_cases e : j = k
  · rw [if_pos e]
    unfold upI
    by_cases e2 : i2 = i
    · rw [if_pos e2]; exact ⟨h1, h2⟩
    · rw [if_neg e2]; exact h.2 k i2
  · rw [if_neg e]; exact h.2 j i2
/-- what may differ: the ints of SI, the arrays of SF -/
def mfr (SI SF : List Nat) (I : Nat → Int) (F : Nat → Int → Int) (I' : Nat → Int) (F' : Nat → Int → Int) : Prop := (∀ k, k ∉ SI → I' k = I k) ∧ ∀ k, k ∉ SF → F' k = F k
theorem mfr.rf {SI SF : List Nat} {I : Nat → Int} {F : Nat → Int → Int} : mfr SI SF I F I F := ⟨fun _ _ => rfl, fun _ _ => rfl⟩
theorem mfr.tr {SI SF : List Nat} {I I1 I2 : Nat → Int} {F F1 F2 : Nat → Int → Int} (h : mfr SI SF I F I1 F1) (h2 : mfr SI SF I1 F1 I2 F2) : mfr SI SF I F I2 F2 := ⟨fun k q => (h2.1 k q).trans (h.1 k q), fun k q => (h2.2 k q).trans (h.2 k q)⟩
theorem mfr.mono {SI SF TI TF : List Nat} {I I1 : Nat → Int} {F F1 : Nat → Int → Int} (h : mfr SI SF I F I1 F1) (h1 : ∀ k, k ∈ SI → k ∈ TI) (h2 : ∀ k, k ∈ SF → k ∈ TF) : mfr TI TF I F I1 F1 := ⟨fun k q => h.1 k (fun z => q (h1 k z)), fun k q => h.2 k (fun z => q (h2 k z))⟩
theorem mfr.upI {SI SF : List Nat} {I I1 : Nat → Int} {F F1 : Nat → Int → Int} (h : mfr SI SF I F I1 F1) {k : Nat} (hk : k ∈ SI) (v : Int) : mfr SI SF I F (va_up I1 k v) F1 := ⟨fun j q => (va_up_ne I1 v (fun (e : j = k) => q (by rw [e]; exact hk))).trans (h.1 j q), h.2⟩
theorem mfr.upF {SI SF : List Nat} {I I1 : Nat → Int} {F F1 : Nat → Int → Int} (h : mfr SI SF I F I1 F1) {k : Nat} (hk : k ∈ SF) (v : Int → Int) : mfr SI SF I F I1 (va_up F1 k v) := ⟨h.1, fun j q => (va_up_ne F1 v (fun (e : j = k) => q (by rw [e]; exact hk))).trans (h.2 j q)⟩
