/-! what throws in the landed object: what was really made counts there too -/
def yX (thr : String → Prop) (c0 c1 : Nat) (B : State → Prop) (A : Nat → Prop) : String → State → State → Prop := fun E st t => thr E ∧ (t.heap.size ≤ st.heap.size + c0 ∧ hm t.heap ≤ hm st.heap + c1) ∧ B t ∧ va_F A st t
theorem yX_sz {s t : State} {L : List Loc} {k n : Nat} (h : s.sameButNew ({ t with vm := s.vm } : State) L k n) : t.heap.size ≤ s.heap.size + k ∧ hm t.heap ≤ hm s.heap + n := by
  have e := hm_same h
  obtain ⟨q1, q2, q3, q4, q5, q6⟩ := h
  have q5' : ((t.heap.toList.drop s.heap.size).map (fun c => c.slots.size)).sum ≤ n := q5
  have e' : hm t.heap = hm s.heap + ((t.heap.toList.drop s.heap.size).map (fun c => c.slots.size)).sum := e
  have q3' : t.heap.size ≤ s.heap.size + k := q3
  exact ⟨q3', by omega⟩
section YK
variable {p : Program} {l : Launch} {e : Env} {R : Room} {s : State} {m : MethodId} {args : Array Value} {below : List Frame} {meth : Method} {c : Code} {H : Heap} {locs : List Loc} {cells slots : Nat} {Q : State → Prop} {cc : ByteArray} {pc : Nat} {ls : Array Slot} {rest : List Value} {Qc : Array Value → State → Outcome → State → Prop} {A A0 A1 : Nat → Prop} {mc ms c0 c1 : Nat} {free : Addr → Prop} {thr : String → Prop} {B : State → Prop} {H0 : Heap} {st0 : List Value} {a : Array Value}
theorem ky_conv {t : State} {k9 n9 : Nat} (h : vx_MQ below Qc (fun E st t => thr E ∧ B t ∧ va_F A st t) args s k9 n9 free t) (h1 : k9 ≤ mc) (h2 : n9 ≤ ms) (h3 : k9 ≤ c0) (h4 : n9 ≤ c1) : vx_MQ below Qc (yX thr c0 c1 B A) args s mc ms free t := by
  obtain ⟨o, b1, b2, b3⟩ := h
  refine ⟨o, b1, b2, ?_⟩
  rcases b3 with ⟨q1, L, q2, q3⟩ | ⟨q, q1, E, ce, L, ⟨x1, x2, x3⟩, r1, r2, r3, r4, r5, r6⟩
  · exact Or.inl ⟨q1, L, ⟨q2.1, q2.2.1, q2.2.2.mono h1 h2⟩, q3⟩
  · obtain ⟨z1, z2⟩ := yX_sz r5
    exact Or.inr ⟨q, q1, E, ce, L, ⟨x1, ⟨by omega, by omega⟩, x2, x3⟩, r1, r2, r3, r4, r5.mono h1 h2, r6⟩
theorem ky_tight {g : JFrame} {k9 n9 : Nat} (h : W p l e R s m args below meth c H locs cells slots (vx_MQ below Qc (fun E st t => thr E ∧ B t ∧ va_F A st t) args s k9 n9 free) g) (h1 : k9 ≤ mc) (h2 : n9 ≤ ms) (h3 : k9 ≤ c0) (h4 : n9 ≤ c1) : W p l e R s m args below meth c H locs cells slots (vx_MQ below Qc (yX thr c0 c1 B A) args s mc ms free) g := by
  intro T hT X
  obtain ⟨t, a1, b⟩ := h T hT X
  exact ⟨t, a1, ky_conv b h1 h2 h3 h4⟩
theorem ky_out {E : String} {ce : Cell} {q : Addr} (hout : ∀ x ∈ c.exceptionTable.toList, covers x pc = false) (hlocks : meth.locks = false) (hcell : H[q]? = some ce) (hv : ce.vm = .none) (hcl : s.vm.findClass E = some ce.cls)
    (ht : thr E) (hB : ∀ t : State, t.heap = H → s.vm.Alike t.vm → B t) (hS : va_S A s.heap H locs) (hf : ∀ z ∈ locs, free z.base) (hc : cells ≤ mc) (hs : slots ≤ ms) (h3 : cells ≤ c0) (h4 : slots ≤ c1) :
    vx_W p l e R s m args below meth c H locs cells slots (vx_MQ below Qc (yX thr c0 c1 B A) args s mc ms free) (F0 m pc ls rest) q := by
  intro T hT X
  obtain ⟨t, a1, b⟩ := vx_out (XC := fun E st t => thr E ∧ B t ∧ va_F A st t) (mc := cells) (ms := slots) hout hlocks hcell hv hcl (fun t ht9 hvm9 => ⟨ht, hB t ht9 hvm9, hS.F ht9⟩) hf (Nat.le_refl _) (Nat.le_refl _) T hT X
  exact ⟨t, a1, ky_conv b hc hs h3 h4⟩
/-- behind a call that may throw -/
theorem yk_call {S : Type} {ov : S → Option Value} {post : S → Nat → Nat → Prop} {BK : S → State → Prop} (hr : vx_Run p l e R s m args below meth c H locs cells slots mc ms (F0 m pc ls st0) rest (xQ ov post BK A1 a) (yX thr c0 c1 B A1) free) (hS : va_S A0 H0 H locs) (hA : ∀ q, q < H.size → A1 q → A0 q) (hf : ∀ q, free q → A0 q)
    (kx : ∀ (E : String) (ce : Cell) (q9 : Addr) (t : State) (H1 : Heap) (locs1 : List Loc), t.heap = H1 → s.vm.Alike t.vm → thr E → B t → (∀ q : Nat, q < H.size → ¬ A1 q → H1[q]? = H[q]?) → va_S A0 H0 H1 locs1 → H1[q9]? = some ce → ce.vm = .none → s.vm.findClass E = some ce.cls → vx_W p l e R s m args below meth c H1 locs1 (cells + c0) (slots + c1) Q (F0 m pc ls rest) q9)
    (kk : ∀ (u : S) (dn dm : Nat) (t : State) (H1 : Heap) (locs1 : List Loc), t.heap = H1 → s.vm.Alike t.vm → post u dn dm → BK u t → (∀ q : Nat, q < H.size → ¬ A1 q → H1[q]? = H[q]?) → va_S A0 H0 H1 locs1 → W p l e R s m args below meth c H1 locs1 (cells + dn) (slots + dm) Q (F0 m (pc + 3) ls ((ov u).toList ++ rest))) : W p l e R s m args below meth c H locs cells slots Q (F0 m pc ls st0) := by
  have hset : ∀ (T T' t : State) (L : List Loc) (k n : Nat), T.heap = H → Stand p l e R s m args below meth c T locs cells slots → Stand p l e R s m args below meth c T' (locs ++ L) (cells + mc) (slots + ms) → T'.heap = t.heap → t.heap.size ≤ H.size + k → hm t.heap ≤ hm H + n → Stand p l e R s m args below meth c T' (locs ++ L) (cells + k) (slots + n) := by
    intro T T' t L k n hT X X' e1 hn1 hm1
    have f0 := hm_same X.same
    have f1 := hm_same X'.same
    obtain ⟨q1, q2, q3, q4, q5, q6⟩ := X'.same
    obtain ⟨-, -, r3, -, r5, -⟩ := X.same
    have eh : (T.setVm s.vm).heap = H := hT
    have eh' : (T'.setVm s.vm).heap = t.heap := e1
    rw [eh] at f0 r3
    rw [eh'] at f1
    have r5' : ((T.setVm s.vm).heap.toList.drop s.heap.size |>.map (fun c => c.slots.size)).sum ≤ slots := r5
    rw [eh] at r5'
    refine { X' with same := ⟨q1, q2, ?_, q4, ?_, q6⟩ }
    · rw [eh']; omega
    · show ((T'.setVm s.vm).heap.toList.drop s.heap.size |>.map (fun c => c.slots.size)).sum ≤ slots + n
      rw [eh']; omega
  intro T hT X
  rcases hr T hT X with ⟨v, st₀, t, T', L, h0, X', hL, e1, e2, ⟨⟨u, dn, dm, hv, hn1, hm1, hp, hb⟩, hz, hk⟩, st⟩ | ⟨q, st₀, t, T', L, E, ce, h0, X', hL, e1, e2, ⟨x1, ⟨x2, x3⟩, x4, hz, hk⟩, hce, hcv, hcl, st⟩
  · cases hv
    rw [h0] at hz hk hn1 hm1
    have X2 := hset T T' t L dn dm hT X X' e1 (by omega) (by omega)
    obtain ⟨t2, a1, b1⟩ := kk u dn dm t T'.heap (locs ++ L) e1.symm (by rw [← e2]; exact X2.warmed.alike) hp hb (fun q h1 h2 => by rw [e1]; exact hk q h1 h2)
      ⟨Nat.le_trans hS.1 (by rw [e1]; exact hz), fun q h1 h2 => by rw [e1, hk q (Nat.lt_of_lt_of_le h1 hS.1) (fun z => h2 (hA q (Nat.lt_of_lt_of_le h1 hS.1) z))]; exact hS.2.1 q h1 h2, fun q hq => by
        rcases List.mem_append.mp hq with h | h
        · exact hS.2.2 q h
        · exact hf _ (hL q h)⟩ T' rfl X2
    exact ⟨t2, st t2 a1, b1⟩
  · rw [h0] at hz hk x2 x3
    have X2 := hset T T' t L c0 c1 hT X X' e1 x2 x3
    obtain ⟨t2, a1, b1⟩ := kx E ce q t T'.heap (locs ++ L) e1.symm (by rw [← e2]; exact X2.warmed.alike) x1 x4 (fun q h1 h2 => by rw [e1]; exact hk q h1 h2)
      ⟨Nat.le_trans hS.1 (by rw [e1]; exact hz), fun q h1 h2 => by rw [e1, hk q (Nat.lt_of_lt_of_le h1 hS.1) (fun z => h2 (hA q (Nat.lt_of_lt_of_le h1 hS.1) z))]; exact hS.2.1 q h1 h2, fun q hq => by
        rcases List.mem_append.mp hq with h | h
        · exact hS.2.2 q h
        · exact hf _ (hL q h)⟩ (by rw [e1]; exact hce) hcv hcl T' rfl X2
    exact ⟨t2, st.trans a1, b1⟩
theorem ky_thr_NSE (hx : p.tables.exec = Jvm.exec) (hb : c.code = cc) (hlf : l.stackTraces = false) (hown : s.vm.findClass RX5 = some m.cls) (hG : kx_G s) (hZ : kx_Z A s s.heap) (hS : va_S A s.heap H locs) (hsize : ls.size = c.maxLocals)
    (d0 : decode cc pc = .ok (.new 88, 3)) (d3 : decode cc (pc + 3) = .ok (.dup, 1)) (d4 : decode cc (pc + 4) = .ok (.invokespecial 90, 3)) (d7 : decode cc (pc + 7) = .ok (.athrow, 1)) (htab : ∀ x ∈ c.exceptionTable.toList, False)
    (hRf : 2 + 4 ≤ R.frames) (hRl : (rest.map fun v => v.category).sum + (13 * (2 + 1) + 42) ≤ R.locals) (hRc : cells + 1 ≤ R.cells) (hRs : slots + 6 ≤ R.slots) (hlocks : meth.locks = false)
    (ht : thr "java/util/NoSuchElementException") (hB : ∀ t : State, s.vm.Alike t.vm → H.size ≤ t.heap.size → (∀ q : Nat, q < H.size → t.heap[q]? = H[q]?) → B t) (hf : ∀ z ∈ locs, free z.base) (hc : cells + 1 ≤ mc) (hs : slots + 6 ≤ ms) (h3 : cells + 1 ≤ c0) (h4 : slots + 6 ≤ c1) :
    W p l e R s m args below meth c H locs cells slots (vx_MQ below Qc (yX thr c0 c1 B A) args s mc ms free) (F0 m pc ls rest) :=
  ky_tight (k9 := cells + 1) (n9 := slots + 6) (vx_throw0 (names := ["java/lang/RuntimeException", "java/lang/Exception"]) hx hb hlf hown (by decide) (by decide) (kx_word hG kx_tD_NSE.2.1 rfl) (kx_word hG kx_tD_NSE.2.2.1 rfl)
    (vx_hat (fun w h => kx_word hG (kx_tA_NSE w h) (List.mem_filter.mp h).2) kx_tB_NSE (vx_c (kx_cast hG kx_tD_NSE.1) (vx_c (kx_decl hG kx_tD_NSE.2.2.2.1) (vx_c (kx_decl hG kx_tD_NSE.2.2.2.2.1) (vx_c (kx_decl hG kx_tD_NSE.2.2.2.2.2) vx_n))))) kx_tC_NSE hZ.1 hZ.2 hS hsize d0 d3 d4 d7 (fun x h => (htab x h).elim) hRf hRl hRc hRs hlocks
    (fun t hvm h1 h2 => ⟨ht, hB t hvm h1 h2, kx_F hS h1 h2⟩) hf (Nat.le_refl _) (Nat.le_refl _)) hc hs h3 h4
theorem ky_thr_IAE (hx : p.tables.exec = Jvm.exec) (hb : c.code = cc) (hlf : l.stackTraces = false) (hown : s.vm.findClass RX5 = some m.cls) (hG : kx_G s) (hZ : kx_Z A s s.heap) (hS : va_S A s.heap H locs) (hsize : ls.size = c.maxLocals)
    (d0 : decode cc pc = .ok (.new 95, 3)) (d3 : decode cc (pc + 3) = .ok (.dup, 1)) (d4 : decode cc (pc + 4) = .ok (.invokespecial 97, 3)) (d7 : decode cc (pc + 7) = .ok (.athrow, 1)) (htab : ∀ x ∈ c.exceptionTable.toList, False)
    (hRf : 2 + 4 ≤ R.frames) (hRl : (rest.map fun v => v.category).sum + (13 * (2 + 1) + 42) ≤ R.locals) (hRc : cells + 1 ≤ R.cells) (hRs : slots + 6 ≤ R.slots) (hlocks : meth.locks = false)
    (ht : thr "java/lang/IllegalArgumentException") (hB : ∀ t : State, s.vm.Alike t.vm → H.size ≤ t.heap.size → (∀ q : Nat, q < H.size → t.heap[q]? = H[q]?) → B t) (hf : ∀ z ∈ locs, free z.base) (hc : cells + 1 ≤ mc) (hs : slots + 6 ≤ ms) (h3 : cells + 1 ≤ c0) (h4 : slots + 6 ≤ c1) :
    W p l e R s m args below meth c H locs cells slots (vx_MQ below Qc (yX thr c0 c1 B A) args s mc ms free) (F0 m pc ls rest) :=
  ky_tight (k9 := cells + 1) (n9 := slots + 6) (vx_throw0 (names := ["java/lang/RuntimeException", "java/lang/Exception"]) hx hb hlf hown (by decide) (by decide) (kx_word hG kx_tD_IAE.2.1 rfl) (kx_word hG kx_tD_IAE.2.2.1 rfl)
    (vx_hat (fun w h => kx_word hG (kx_tA_IAE w h) (List.mem_filter.mp h).2) kx_tB_IAE (vx_c (kx_cast hG kx_tD_IAE.1) (vx_c (kx_decl hG kx_tD_IAE.2.2.2.1) (vx_c (kx_decl hG kx_tD_IAE.2.2.2.2.1) (vx_c (kx_decl hG kx_tD_IAE.2.2.2.2.2) vx_n))))) kx_tC_IAE hZ.1 hZ.2 hS hsize d0 d3 d4 d7 (fun x h => (htab x h).elim) hRf hRl hRc hRs hlocks
    (fun t hvm h1 h2 => ⟨ht, hB t hvm h1 h2, kx_F hS h1 h2⟩) hf (Nat.le_refl _) (Nat.le_refl _)) hc hs h3 h4
theorem ky_thr_UOE (hx : p.tables.exec = Jvm.exec) (hb : c.code = cc) (hlf : l.stackTraces = false) (hown : s.vm.findClass RX5 = some m.cls) (hG : kx_G s) (hZ : kx_Z A s s.heap) (hS : va_S A s.heap H locs) (hsize : ls.size = c.maxLocals)
    (d0 : decode cc pc = .ok (.new 98, 3)) (d3 : decode cc (pc + 3) = .ok (.dup, 1)) (d4 : decode cc (pc + 4) = .ok (.invokespecial 100, 3)) (d7 : decode cc (pc + 7) = .ok (.athrow, 1)) (htab : ∀ x ∈ c.exceptionTable.toList, False)
    (hRf : 2 + 4 ≤ R.frames) (hRl : (rest.map fun v => v.category).sum + (13 * (2 + 1) + 42) ≤ R.locals) (hRc : cells + 1 ≤ R.cells) (hRs : slots + 6 ≤ R.slots) (hlocks : meth.locks = false)
    (ht : thr "java/lang/UnsupportedOperationException") (hB : ∀ t : State, s.vm.Alike t.vm → H.size ≤ t.heap.size → (∀ q : Nat, q < H.size → t.heap[q]? = H[q]?) → B t) (hf : ∀ z ∈ locs, free z.base) (hc : cells + 1 ≤ mc) (hs : slots + 6 ≤ ms) (h3 : cells + 1 ≤ c0) (h4 : slots + 6 ≤ c1) :
    W p l e R s m args below meth c H locs cells slots (vx_MQ below Qc (yX thr c0 c1 B A) args s mc ms free) (F0 m pc ls rest) :=
  ky_tight (k9 := cells + 1) (n9 := slots + 6) (vx_throw0 (names := ["java/lang/RuntimeException", "java/lang/Exception"]) hx hb hlf hown (by decide) (by decide) (kx_word hG kx_tD_UOE.2.1 rfl) (kx_word hG kx_tD_UOE.2.2.1 rfl)
    (vx_hat (fun w h => kx_word hG (kx_tA_UOE w h) (List.mem_filter.mp h).2) kx_tB_UOE (vx_c (kx_cast hG kx_tD_UOE.1) (vx_c (kx_decl hG kx_tD_UOE.2.2.2.1) (vx_c (kx_decl hG kx_tD_UOE.2.2.2.2.1) (vx_c (kx_decl hG kx_tD_UOE.2.2.2.2.2) vx_n))))) kx_tC_UOE hZ.1 hZ.2 hS hsize d0 d3 d4 d7 (fun x h => (htab x h).elim) hRf hRl hRc hRs hlocks
    (fun t hvm h1 h2 => ⟨ht, hB t hvm h1 h2, kx_F hS h1 h2⟩) hf (Nat.le_refl _) (Nat.le_refl _)) hc hs h3 h4
theorem ky_thr_IOB (hx : p.tables.exec = Jvm.exec) (hb : c.code = cc) (hlf : l.stackTraces = false) (hown : s.vm.findClass RX5 = some m.cls) (hG : kx_G s) (hZ : kx_Z A s s.heap) (hS : va_S A s.heap H locs) (hsize : ls.size = c.maxLocals)
    (d0 : decode cc pc = .ok (.new 166, 3)) (d3 : decode cc (pc + 3) = .ok (.dup, 1)) (d4 : decode cc (pc + 4) = .ok (.invokespecial 168, 3)) (d7 : decode cc (pc + 7) = .ok (.athrow, 1)) (htab : ∀ x ∈ c.exceptionTable.toList, False)
    (hRf : 2 + 4 ≤ R.frames) (hRl : (rest.map fun v => v.category).sum + (13 * (2 + 1) + 42) ≤ R.locals) (hRc : cells + 1 ≤ R.cells) (hRs : slots + 6 ≤ R.slots) (hlocks : meth.locks = false)
    (ht : thr "java/lang/IndexOutOfBoundsException") (hB : ∀ t : State, s.vm.Alike t.vm → H.size ≤ t.heap.size → (∀ q : Nat, q < H.size → t.heap[q]? = H[q]?) → B t) (hf : ∀ z ∈ locs, free z.base) (hc : cells + 1 ≤ mc) (hs : slots + 6 ≤ ms) (h3 : cells + 1 ≤ c0) (h4 : slots + 6 ≤ c1) :
    W p l e R s m args below meth c H locs cells slots (vx_MQ below Qc (yX thr c0 c1 B A) args s mc ms free) (F0 m pc ls rest) :=
  ky_tight (k9 := cells + 1) (n9 := slots + 6) (vx_throw0 (names := ["java/lang/RuntimeException", "java/lang/Exception"]) hx hb hlf hown (by decide) (by decide) (kx_word hG kx_tD_IOB.2.1 rfl) (kx_word hG kx_tD_IOB.2.2.1 rfl)
    (vx_hat (fun w h => kx_word hG (kx_tA_IOB w h) (List.mem_filter.mp h).2) kx_tB_IOB (vx_c (kx_cast hG kx_tD_IOB.1) (vx_c (kx_decl hG kx_tD_IOB.2.2.2.1) (vx_c (kx_decl hG kx_tD_IOB.2.2.2.2.1) (vx_c (kx_decl hG kx_tD_IOB.2.2.2.2.2) vx_n))))) kx_tC_IOB hZ.1 hZ.2 hS hsize d0 d3 d4 d7 (fun x h => (htab x h).elim) hRf hRl hRc hRs hlocks
    (fun t hvm h1 h2 => ⟨ht, hB t hvm h1 h2, kx_F hS h1 h2⟩) hf (Nat.le_refl _) (Nat.le_refl _)) hc hs h3 h4
theorem ky_thr_AOB (hx : p.tables.exec = Jvm.exec) (hb : c.code = cc) (hlf : l.stackTraces = false) (hown : s.vm.findClass RX5 = some m.cls) (hG : kx_G s) (hZ : kx_Z A s s.heap) (hS : va_S A s.heap H locs) (hsize : ls.size = c.maxLocals)
    (d0 : decode cc pc = .ok (.new 230, 3)) (d3 : decode cc (pc + 3) = .ok (.dup, 1)) (d4 : decode cc (pc + 4) = .ok (.invokespecial 232, 3)) (d7 : decode cc (pc + 7) = .ok (.athrow, 1)) (htab : ∀ x ∈ c.exceptionTable.toList, False)
    (hRf : 3 + 4 ≤ R.frames) (hRl : (rest.map fun v => v.category).sum + (13 * (3 + 1) + 42) ≤ R.locals) (hRc : cells + 1 ≤ R.cells) (hRs : slots + 6 ≤ R.slots) (hlocks : meth.locks = false)
    (ht : thr "java/lang/ArrayIndexOutOfBoundsException") (hB : ∀ t : State, s.vm.Alike t.vm → H.size ≤ t.heap.size → (∀ q : Nat, q < H.size → t.heap[q]? = H[q]?) → B t) (hf : ∀ z ∈ locs, free z.base) (hc : cells + 1 ≤ mc) (hs : slots + 6 ≤ ms) (h3 : cells + 1 ≤ c0) (h4 : slots + 6 ≤ c1) :
    W p l e R s m args below meth c H locs cells slots (vx_MQ below Qc (yX thr c0 c1 B A) args s mc ms free) (F0 m pc ls rest) :=
  ky_tight (k9 := cells + 1) (n9 := slots + 6) (vx_throw0 (names := ["java/lang/IndexOutOfBoundsException", "java/lang/RuntimeException", "java/lang/Exception"]) hx hb hlf hown (by decide) (by decide) (kx_word hG kx_tD_AOB.2.1 rfl) (kx_word hG kx_tD_AOB.2.2.1 rfl)
    (vx_hat (fun w h => kx_word hG (kx_tA_AOB w h) (List.mem_filter.mp h).2) kx_tB_AOB (vx_c (kx_cast hG kx_tD_AOB.1) (vx_c (kx_decl hG kx_tD_AOB.2.2.2.1) (vx_c (kx_decl hG kx_tD_AOB.2.2.2.2.1) (vx_c (kx_decl hG kx_tD_AOB.2.2.2.2.2.1) (vx_c (kx_decl hG kx_tD_AOB.2.2.2.2.2.2) vx_n)))))) kx_tC_AOB hZ.1 hZ.2 hS hsize d0 d3 d4 d7 (fun x h => (htab x h).elim) hRf hRl hRc hRs hlocks
    (fun t hvm h1 h2 => ⟨ht, hB t hvm h1 h2, kx_F hS h1 h2⟩) hf (Nat.le_refl _) (Nat.le_refl _)) hc hs h3 h4
end YK
