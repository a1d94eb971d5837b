/-! what a call of the landed class makes: its cells and slots as they are counted in the heap -/
def hm (H : Heap) : Nat := (H.toList.map (fun c => c.slots.size)).sum
theorem hm_same {s s' : State} {locs : List Loc} {k n : Nat} (h : s.sameButNew s' locs k n) : hm s'.heap = hm s.heap + ((s'.heap.toList.drop s.heap.size).map (fun c => c.slots.size)).sum := by
  obtain ⟨-, h1, -, -, -, h2⟩ := h
  unfold hm
  have e : (s'.heap.toList.map (fun c => c.slots.size)).sum = ((s'.heap.toList.take s.heap.size).map (fun c => c.slots.size)).sum + ((s'.heap.toList.drop s.heap.size).map (fun c => c.slots.size)).sum := by
    rw [← List.sum_append, ← List.map_append, List.take_append_drop]
  rw [e]
  have e2 : (s'.heap.toList.take s.heap.size).map (fun c => c.slots.size) = s.heap.toList.map (fun c => c.slots.size) := by
    refine List.ext_getElem? fun i => ?_
    rw [List.getElem?_map, List.getElem?_map, List.getElem?_take]
    by_cases hi : i < s.heap.size
    · rw [if_pos hi, Array.getElem?_toList, Array.getElem?_toList]
      obtain ⟨c', q1, -, q2, -⟩ := h2 i _ (Array.getElem?_eq_getElem hi)
      rw [q1, Array.getElem?_eq_getElem hi]
      simp only [Option.map_some, q2]
    · rw [if_neg hi, Array.getElem?_toList, Array.getElem?_eq_none (Nat.le_of_not_lt hi)]
  rw [e2]
/-- an answer, what it comes to, and what was really made -/
def xQ {S : Type} (ov : S → Option Value) (post : S → Nat → Nat → Prop) (B : S → State → Prop) (A : Nat → Prop) : Array Value → State → Outcome → State → Prop := fun _ st oc t =>
  (∃ (u : S) (dn dm : Nat), oc = .returned (ov u) ∧ t.heap.size = st.heap.size + dn ∧ hm t.heap = hm st.heap + dm ∧ post u dn dm ∧ B u t) ∧ va_F A st t
/-- a method that changes nothing -/
def pQ (ov : Int → Option Value) (post : Int → Prop) : Array Value → State → Outcome → State → Prop := fun _ st oc t => ∃ z : Int, oc = .returned (ov z) ∧ post z ∧ t.heap = st.heap
abbrev pPre (dC : Nat → ClassId) (dI : Nat → Nat → Nat) (ws : va_W) (tys : List (ClassId × FieldType)) (sz : Nat) (U : State) : Prop :=
  U.heap.size = sz ∧ va_P (dC, dI) kxCl ws U.heap ∧ va_K (dC, dI) kxCl tys U ∧ kx_G U
theorem pPre_blind {dC : Nat → ClassId} {dI : Nat → Nat → Nat} {ws : va_W} {tys : List (ClassId × FieldType)} {sz : Nat} {av : List Value} : FrameBlind (va_Pc av (pPre dC dI ws tys sz)) := by
  intro a U g mk q
  obtain ⟨q0, q1, qP, qK, qG⟩ := q
  exact ⟨q0, q1, qP, va_K.moved (u := U) (U := U.calling g mk a) (Vm.Alike.refl U.vm) qK, qG.same rfl⟩
theorem pPre_give {dC : Nat → ClassId} {dI : Nat → Nat → Nat} {wc : va_W} {tc : List (ClassId × FieldType)} {av : List Value} {s : State} {H : Heap}
    (hPc : va_P (dC, dI) kxCl wc H) (hKc : va_K (dC, dI) kxCl tc s) (hG : kx_G s) :
    ∀ U : State, U.heap = H → s.WarmedH U.vm → va_Pc av (pPre dC dI wc tc H.size) av.toArray U :=
  fun U hU hW => ⟨rfl, by rw [hU], by rw [hU]; exact hPc, va_K.moved hW.alike hKc, hG.go hW⟩
/-- the arrays of a kind have one class -/
theorem xk_cls {D : va_G} {cl : List vw_C} {tys : List (ClassId × FieldType)} {U : State} (hK : va_K D cl tys U) (i j : Nat) {a b : ClassId} {ty : FieldType} (hi : tys[i]? = some (a, ty)) (hj : tys[j]? = some (b, ty)) (hr : refKind ty = false) : a = b := by
  have h1 := (hK.2 i _ hi).2
  have h2 := (hK.2 j _ hj).2
  cases ty <;> first
    | (exact Option.some.inj (h1.symm.trans h2))
    | (cases hr)
section XK
variable {p : Program} {l : Launch} {e : Env} {R : Room} {s : State} {m : MethodId} {args : Array Value} {below : List Frame} {meth : Method} {c : Code} {H : Heap} {locs : List Loc} {cells slots : Nat} {Q : State → Prop} {cc : ByteArray} {pc : Nat} {ls : Array Slot} {rest : List Value} {dC : Nat → ClassId} {dI : Nat → Nat → Nat} {A A0 A1 : Nat → Prop} {H0 : Heap} {st0 : List Value} {mc ms : Nat} {free : Addr → Prop} {a : Array Value}
theorem xk_tight {g : JFrame} (k : s.heap.size ≤ H.size → H.size ≤ s.heap.size + cells → hm s.heap ≤ hm H → hm H ≤ hm s.heap + slots → W p l e R s m args below meth c H locs (H.size - s.heap.size) (hm H - hm s.heap) Q g) : W p l e R s m args below meth c H locs cells slots Q g := by
  intro T hT X
  have hsm := X.same
  have e := hm_same hsm
  have eh : (T.setVm s.vm).heap = H := hT
  obtain ⟨q1, q2, q3, q4, q5, q6⟩ := hsm
  have q2' := q2
  have q3' := q3
  rw [eh] at e q2' q3'
  have q5' : ((T.setVm s.vm).heap.toList.drop s.heap.size |>.map (fun c => c.slots.size)).sum ≤ slots := q5
  rw [eh] at q5'
  refine k q2' q3' (by omega) (by omega) T hT { X with same := ⟨q1, q2, ?_, q4, ?_, q6⟩ }
  · rw [eh]; omega
  · show ((T.setVm s.vm).heap.toList.drop s.heap.size |>.map (fun c => c.slots.size)).sum ≤ hm H - hm s.heap
    rw [eh]; omega
/-- behind a call: what it really made is what counts -/
theorem xk_call {S : Type} {ov : S → Option Value} {post : S → Nat → Nat → Prop} {B : S → State → Prop} (hr : va_Run p l e R s m args below meth c H locs cells slots mc ms (F0 m pc ls st0) rest (xQ ov post B A1 a) free) (hS : va_S A0 H0 H locs) (hA : ∀ q, q < H.size → A1 q → A0 q) (hf : ∀ q, free q → A0 q)
    (kk : ∀ (u : S) (dn dm : Nat) (t : State) (H1 : Heap) (locs1 : List Loc), t.heap = H1 → s.vm.Alike t.vm → post u dn dm → B u t → (∀ q : Nat, q < H.size → ¬ A1 q → H1[q]? = H[q]?) → va_S A0 H0 H1 locs1 → W p l e R s m args below meth c H1 locs1 (cells + dn) (slots + dm) Q (F0 m (pc + 3) ls ((ov u).toList ++ rest))) : W p l e R s m args below meth c H locs cells slots Q (F0 m pc ls st0) := by
  intro T hT X
  obtain ⟨v, st₀, t, T', L, h0, X', hL, e1, e2, ⟨⟨u, dn, dm, hv, hn1, hm1, hp, hb⟩, hz, hk⟩, st⟩ := hr T hT X
  cases hv
  rw [h0] at hz hk hn1 hm1
  have X2 : Stand p l e R s m args below meth c T' (locs ++ L) (cells + dn) (slots + dm) := by
    have f0 := hm_same X.same
    have f1 := hm_same X'.same
    obtain ⟨q1, q2, q3, q4, q5, q6⟩ := X'.same
    obtain ⟨-, -, r3, -, r5, -⟩ := X.same
    have eh : (T.setVm s.vm).heap = H := hT
    have eh' : (T'.setVm s.vm).heap = t.heap := e1
    rw [eh] at f0 r3
    rw [eh'] at f1
    have r5' : ((T.setVm s.vm).heap.toList.drop s.heap.size |>.map (fun c => c.slots.size)).sum ≤ slots := r5
    rw [eh] at r5'
    refine { X' with same := ⟨q1, q2, ?_, q4, ?_, q6⟩ }
    · rw [eh']; omega
    · show ((T'.setVm s.vm).heap.toList.drop s.heap.size |>.map (fun c => c.slots.size)).sum ≤ slots + dm
      rw [eh']; omega
  obtain ⟨t2, a1, b1⟩ := kk u dn dm t T'.heap (locs ++ L) e1.symm (by rw [← e2]; exact X2.warmed.alike) hp hb (fun q h1 h2 => by rw [e1]; exact hk q h1 h2)
    ⟨Nat.le_trans hS.1 (by rw [e1]; exact hz), fun q h1 h2 => by rw [e1, hk q (Nat.lt_of_lt_of_le h1 hS.1) (fun z => h2 (hA q (Nat.lt_of_lt_of_le h1 hS.1) z))]; exact hS.2.1 q h1 h2, fun q hq => by
      rcases List.mem_append.mp hq with h | h
      · exact hS.2.2 q h
      · exact hf _ (hL q h)⟩ T' rfl X2
  exact ⟨t2, st t2 a1, b1⟩
/-- behind a call that changes nothing -/
theorem xk_pure {ov : Int → Option Value} {post : Int → Prop} (hr : va_Run p l e R s m args below meth c H locs cells slots 0 0 (F0 m pc ls st0) rest (pQ ov post a) (fun _ => False)) (hS : va_S A0 H0 H locs)
    (kk : ∀ (z : Int) (locs1 : List Loc), post z → va_S A0 H0 H locs1 → W p l e R s m args below meth c H locs1 cells slots Q (F0 m (pc + 3) ls ((ov z).toList ++ rest))) : W p l e R s m args below meth c H locs cells slots Q (F0 m pc ls st0) := by
  intro T hT X
  obtain ⟨v, st₀, t, T', L, h0, X', hL, e1, e2, ⟨z, hv, hp, hh⟩, st⟩ := hr T hT X
  cases hv
  obtain ⟨t2, a1, b1⟩ := kk z (locs ++ L) hp ⟨hS.1, hS.2.1, fun q hq => by
      rcases List.mem_append.mp hq with h | h
      · exact hS.2.2 q h
      · exact (hL q h).elim⟩ T' (by rw [e1, hh, h0]) X'
  exact ⟨t2, st t2 a1, b1⟩
/-- the end of a method that changes nothing: locs is empty there -/
theorem xp_iret {z : Int} {post : Int → Prop} {ty : FieldType} (hexec : p.tables.exec = Jvm.exec) (hb : c.code = cc) (hr : meth.sig.returnType = some ty) (hn : narrow ty (.int (iz z)) = .int (iz z)) (hlocks : meth.locks = false) (hH : H = s.heap) (hL : ∀ q ∈ locs, False) (hdg : decode cc pc = .ok (.ireturn, 1)) (hp : post z) :
    W p l e R s m args below meth c H locs 0 0 (MQ below (pQ (fun z => some (.int (iz z))) post) args s 0 0 (fun _ => False)) (F0 m pc ls [.int (iz z)]) :=
  W.zret (v := iz z) hexec hb hr hn (fun t ht hW => ⟨z, rfl, hp, by rw [ht, hH]⟩) hL hdg hlocks
theorem xp_aret {x : Nat} {post : Int → Prop} {ty : FieldType} (hexec : p.tables.exec = Jvm.exec) (hb : c.code = cc) (hr : meth.sig.returnType = some ty) (hrt : (∃ n, ty = .object n) ∨ ∃ t, ty = .array t) (hlocks : meth.locks = false) (hH : H = s.heap) (hL : ∀ q ∈ locs, False) (hdg : decode cc pc = .ok (.areturn, 1)) (hp : post (x : Int)) :
    W p l e R s m args below meth c H locs 0 0 (MQ below (pQ (fun z => some (.ref z.toNat)) post) args s 0 0 (fun _ => False)) (F0 m pc ls [.ref x]) :=
  W.aret (v := .ref x) hexec hb hr hrt (Or.inr ⟨_, rfl⟩) (fun t ht hW => ⟨(x : Int), by show Outcome.returned (some (Value.ref x)) = .returned (some (.ref (x : Int).toNat)); rw [Int.toNat_natCast], hp, by rw [ht, hH]⟩) hL hdg hlocks
/-- the ends of a method that changes its world -/
theorem xk_fin {S : Type} {ov : S → Option Value} {post : S → Nat → Nat → Prop} {B : S → State → Prop} {v : Option Value} {t : State} (u : S) (hov : ov u = v) (h1 : s.heap.size ≤ H.size) (h2 : hm s.heap ≤ hm H) (hp : ∀ dn dm : Nat, dn ≤ H.size - s.heap.size → dm ≤ hm H - hm s.heap → post u dn dm) (hB : B u t) (hS : va_S A s.heap H locs) (ht : t.heap = H) : xQ ov post B A args s (.returned v) t :=
  ⟨⟨u, H.size - s.heap.size, hm H - hm s.heap, by rw [hov], by rw [ht]; omega, by rw [ht]; omega, hp _ _ (Nat.le_refl _) (Nat.le_refl _), hB⟩, hS.F ht⟩
theorem xk_iret {S : Type} {ov : S → Option Value} {post : S → Nat → Nat → Prop} {ws : S → va_W} {tys : List (ClassId × FieldType)} {z : Int} {ty : FieldType} (u : S) (hexec : p.tables.exec = Jvm.exec) (hb : c.code = cc) (hr : meth.sig.returnType = some ty) (hn : narrow ty (.int (iz z)) = .int (iz z)) (hlocks : meth.locks = false) (hov : ov u = some (.int (iz z))) (hP : va_P (dC, dI) kxCl (ws u) H) (hD : va_D A (ws u)) (hK : va_K (dC, dI) kxCl tys s) (hS : va_S A s.heap H locs) (hdg : decode cc pc = .ok (.ireturn, 1))
    (hp : ∀ dn dm : Nat, dn ≤ cells → dm ≤ slots → post u dn dm) (h1 : cells ≤ mc) (h2 : slots ≤ ms) :
    W p l e R s m args below meth c H locs cells slots (MQ below (xQ ov post (fun u t => kx_At dC dI A (ws u) tys t) A) args s mc ms A) (F0 m pc ls [.int (iz z)]) := by
  refine xk_tight fun g1 g2 g3 g4 => ?_
  refine W.widen (k := mc) (n := ms) (by omega) (by omega) ?_
  exact W.zret (v := iz z) hexec hb hr hn (fun t ht hW => xk_fin u hov g1 g3 (fun dn dm a b => hp dn dm (by omega) (by omega)) ⟨by rw [ht]; exact hP, va_K.moved hW.alike hK, hD⟩ hS ht) hS.2.2 hdg hlocks
theorem xk_vret {S : Type} {ov : S → Option Value} {post : S → Nat → Nat → Prop} {ws : S → va_W} {tys : List (ClassId × FieldType)} (u : S) (hexec : p.tables.exec = Jvm.exec) (hb : c.code = cc) (hr : meth.sig.returnType = none) (hlocks : meth.locks = false) (hov : ov u = none) (hP : va_P (dC, dI) kxCl (ws u) H) (hD : va_D A (ws u)) (hK : va_K (dC, dI) kxCl tys s) (hS : va_S A s.heap H locs) (hdg : decode cc pc = .ok (.return_, 1))
    (hp : ∀ dn dm : Nat, dn ≤ cells → dm ≤ slots → post u dn dm) (h1 : cells ≤ mc) (h2 : slots ≤ ms) :
    W p l e R s m args below meth c H locs cells slots (MQ below (xQ ov post (fun u t => kx_At dC dI A (ws u) tys t) A) args s mc ms A) (F0 m pc ls []) := by
  refine xk_tight fun g1 g2 g3 g4 => ?_
  refine W.widen (k := mc) (n := ms) (by omega) (by omega) ?_
  exact W.vret hexec hb hr (fun t ht hW => xk_fin u hov g1 g3 (fun dn dm a b => hp dn dm (by omega) (by omega)) ⟨by rw [ht]; exact hP, va_K.moved hW.alike hK, hD⟩ hS ht) hS.2.2 hdg hlocks
theorem xk_aret {S : Type} {ov : S → Option Value} {post : S → Nat → Nat → Prop} {ws : S → va_W} {tys : List (ClassId × FieldType)} {x : Nat} {ty : FieldType} (u : S) (hexec : p.tables.exec = Jvm.exec) (hb : c.code = cc) (hr : meth.sig.returnType = some ty) (hrt : (∃ n, ty = .object n) ∨ ∃ t, ty = .array t) (hlocks : meth.locks = false) (hov : ov u = some (.ref x)) (hP : va_P (dC, dI) kxCl (ws u) H) (hD : va_D A (ws u)) (hK : va_K (dC, dI) kxCl tys s) (hS : va_S A s.heap H locs) (hdg : decode cc pc = .ok (.areturn, 1))
    (hp : ∀ dn dm : Nat, dn ≤ cells → dm ≤ slots → post u dn dm) (h1 : cells ≤ mc) (h2 : slots ≤ ms) :
    W p l e R s m args below meth c H locs cells slots (MQ below (xQ ov post (fun u t => kx_At dC dI A (ws u) tys t) A) args s mc ms A) (F0 m pc ls [.ref x]) := by
  refine xk_tight fun g1 g2 g3 g4 => ?_
  refine W.widen (k := mc) (n := ms) (by omega) (by omega) ?_
  exact W.aret (v := .ref x) hexec hb hr hrt (Or.inr ⟨_, rfl⟩) (fun t ht hW => xk_fin u hov g1 g3 (fun dn dm a b => hp dn dm (by omega) (by omega)) ⟨by rw [ht]; exact hP, va_K.moved hW.alike hK, hD⟩ hS ht) hS.2.2 hdg hlocks
end XK
/-- behind a call: the callee's cells come back to their places -/
theorem xj_fm {ws ws' : va_W} {pm : List Nat} (hpm : pm.map (fun i => ws[i]?) = ws'.map some) : pm.filterMap (fun i => ws[i]?) = ws' := by
  have h : pm.filterMap (fun i => ws[i]?) = (pm.map (fun i => ws[i]?)).filterMap id := by simp [List.filterMap_map]
  rw [h, hpm]
  simp [List.filterMap_map]
theorem xj {A0 : Nat → Prop} {D : va_G} {cl : List vw_C} {ws wc wr w1 ws' : va_W} {H H1 : Heap} (hP : va_P D cl ws H) (hD : va_D A0 ws) (isC isR pm : List Nat) (hC : isC.map (fun i => ws[i]?) = wc.map some) (hR : isR.map (fun i => ws[i]?) = wr.map some) (hn : va_nd isR = true) (hdis : ∀ i ∈ isR, i ∉ isC)
    (hk : ∀ q : Nat, q < H.size → ¬ va_A wc H.size q → H1[q]? = H[q]?) (hF : ∀ q, va_A wc H.size q → A0 q) (hP1 : va_P D cl w1 H1) (hD1 : va_D (va_A wc H.size) w1) (hpm : pm.map (fun i => (wr ++ w1)[i]?) = ws'.map some) (hpn : va_nd pm = true) : va_P D cl ws' H1 ∧ va_D A0 ws' := by
  obtain ⟨h1, h2⟩ := va_join hP hD isC isR hC hR hn hdis hk hF hP1 hD1
  exact ⟨h1.sub pm (xj_fm hpm), h2.sub pm hpn hpm⟩
theorem xj_pool {A0 : Nat → Prop} {D : va_G} {cl : List vw_C} {ws wc wr w1 ws' pl : va_W} {H H1 : Heap} (hP : va_P D cl (ws ++ pl) H) (hD : va_D A0 (ws ++ pl)) (isC isR pm : List Nat) (hC : isC.map (fun i => ws[i]?) = wc.map some) (hR : isR.map (fun i => ws[i]?) = wr.map some) (hn : va_nd isR = true) (hdis : ∀ i ∈ isR, i ∉ isC)
    (hk : ∀ q : Nat, q < H.size → ¬ va_A wc H.size q → H1[q]? = H[q]?) (hF : ∀ q, va_A wc H.size q → A0 q) (hP1 : va_P D cl w1 H1) (hD1 : va_D (va_A wc H.size) w1) (hpm : pm.map (fun i => (wr ++ w1)[i]?) = ws'.map some) (hpn : va_nd pm = true) : va_P D cl (ws' ++ pl) H1 ∧ va_D A0 (ws' ++ pl) := by
  obtain ⟨h1, h2⟩ := va_joinQ hP hD isC isR hC hR hn hdis hk hF hP1 hD1
  exact ⟨h1.part pm hpm, h2.part pm hpn hpm⟩
/-! how much a row of numbers may still make -/
def psi (L n : Nat) : Nat := if n < L then 3 * L - 2 * n else 0
theorem psi_le (L n : Nat) : psi L n ≤ 3 * L := by unfold psi; split <;> omega
theorem psi_grow {L n n' : Nat} (h : n < L) (h' : n' = min L (2 * n + 4)) : psi L n' + n' ≤ psi L n := by
  unfold psi
  rw [if_pos h]
  split <;> omega
def iB (F : Int → Int) : Prop := ∀ j, -2147483648 ≤ F j ∧ F j < 2147483648
theorem iB_up {F : Int → Int} (h : iB F) (i : Int) {v : Int} (h1 : -2147483648 ≤ v) (h2 : v < 2147483648) : iB (upI F i v) := by
  intro j
  unfold upI
  split
  · exact ⟨h1, h2⟩
  · exact h j
/-! the worlds of the landed class: a row of numbers, three of them as spans, a paper, the warnings -/
abbrev iU (cI : ClassId) (L : Int) (o r n : Nat) (z : Int) (F : Int → Int) : va_W := [(o, .inr (1, [.int (iz L), .ref r, .int (iz z)])), (r, .inl (cI, n, .inl (iA F)))]
abbrev sU (cI : ClassId) (L : Int) (o0 o1 o2 o3 r1 r2 r3 n1 n2 n3 : Nat) (z1 z2 z3 : Int) (F1 F2 F3 : Int → Int) : va_W := [(o0, .inr (3, [.ref o1, .ref o2, .ref o3])), (o1, .inr (1, [.int (iz L), .ref r1, .int (iz z1)])), (r1, .inl (cI, n1, .inl (iA F1))), (o2, .inr (1, [.int (iz L), .ref r2, .int (iz z2)])), (r2, .inl (cI, n2, .inl (iA F2))), (o3, .inr (1, [.int (iz L), .ref r3, .int (iz z3)])), (r3, .inl (cI, n3, .inl (iA F3)))]
abbrev pU (cB : ClassId) (o r n : Nat) (z tl : Int) (F : Int → Int) : va_W := [(o, .inr (2, [.ref r, .int (iz z), .int (iz tl)])), (r, .inl (cB, n, .inl (iA F)))]
abbrev wU (o : Nat) (z1 z2 z3 z4 z5 : Int) : va_W := [(o, .inr (4, [.int (iz z1), .int (iz z2), .int (iz z3), .int (iz z4), .int (iz z5)]))]
abbrev xT (cI cB cE : ClassId) : List (ClassId × FieldType) := [(cI, .int), (cB, .byte), (cE, .object RX0)]
