abbrev kxCl : List vw_C := [(RX0, TX0, 12), (RX1, TX1, 3), (RX2, TX2, 3), (RX3, TX3, 3), (RX4, TX4, 5), (RX5, TX5, 16), (RX6, TX6, 44)]
/-! what every contract carries: the tables' words as they stood at the law's start (kx_G), and the two statics that a throw reads (kx_Z) -/
def kx_G (U : State) : Prop := ∃ (s0 : State) (a0 : Array Value), (∀ w ∈ lw_tbl, w.before a0 s0 = true) ∧ (Jvm.Cond.and given_1 narrow_1).before a0 s0 = true ∧ s0.WarmedH U.vm
theorem kx_G.go {U V : State} (h : kx_G U) (hW : U.WarmedH V.vm) : kx_G V := by
  obtain ⟨s0, a0, h1, h2, h3⟩ := h
  exact ⟨s0, a0, h1, h2, State.WarmedH.trans h3 hW⟩
theorem kx_G.same {U V : State} (h : kx_G U) (hvm : U.vm = V.vm) : kx_G V := by
  obtain ⟨s0, a0, h1, h2, h3⟩ := h
  exact ⟨s0, a0, h1, h2, hvm ▸ h3⟩
theorem kx_cast {U : State} {C T : String} {a : Array Value} (h : kx_G U) (hm : Cond.castable C T ∈ lw_tbl) : (Cond.castable C T).before a U = true := by
  obtain ⟨s0, a0, h1, h2, h3⟩ := h
  exact va_Nw.use rfl (va_Nw.warmC h3 (va_Nw.of rfl (h1 _ hm)))
theorem kx_decl {U : State} {x : MethodName} {a : Array Value} (h : kx_G U) (hm : Cond.declares x ∈ lw_tbl) : (Cond.declares x).before a U = true := by
  obtain ⟨s0, a0, h1, h2, h3⟩ := h
  exact va_Nw.use rfl (va_Nw.warmD h3 (va_Nw.of rfl (h1 _ hm)))
theorem kx_nc {U : State} {C T : String} (h : kx_G U) (hm : Cond.not (.castable C T) ∈ flatC (Jvm.Cond.and given_1 narrow_1)) : va_Nc C T U := by
  obtain ⟨s0, a0, h1, h2, h3⟩ := h
  exact va_Nc.moved h3.alike (va_Nc.of (flat_of_before _ h2 _ hm))
theorem kx_nf {U : State} {a b n d h0 : String} {i : Nat} (h : kx_G U) (hm : Cond.fieldLinkNest a i b n d h0 ∈ lw_tbl) : va_Nw (.fieldLinkNest a i b n d h0) U := by
  obtain ⟨s0, a0, h1, h2, h3⟩ := h
  exact va_Nw.warmF h3 (va_Nw.of rfl (h1 _ hm))
theorem kx_nm {U : State} {a h0 : String} {i : Nat} {x : MethodName} (h : kx_G U) (hm : Cond.methodLinkNest a i x h0 ∈ lw_tbl) : va_Nw (.methodLinkNest a i x h0) U := by
  obtain ⟨s0, a0, h1, h2, h3⟩ := h
  exact va_Nw.warmM h3 (va_Nw.of rfl (h1 _ hm))
theorem kx_ao {U : State} {C : String} (h : kx_G U) (hm : Cond.arrayOver (.object C) ∈ lw_tbl) : va_AO C U := by
  obtain ⟨s0, a0, h1, h2, h3⟩ := h
  exact va_AO.moved h3.alike (va_AO.of (h1 _ hm))
theorem kx_word {U : State} {w : Cond} {a : Array Value} (h : kx_G U) (hm : w ∈ lw_tbl) (hg : goodWord w = true) : w.before a U = true := by
  obtain ⟨s0, a0, h1, h2, h3⟩ := h
  exact word_at h3 (good_of_word hg) (h1 _ hm)
def kx_T : List Cond := lw_tbl.filter goodWord
theorem kx_in {w : Cond} (h : w ∈ lw_tbl) (hg : goodWord w = true) : w ∈ kx_T := List.mem_filter.mpr ⟨h, hg⟩
theorem kx_hts {U : State} {a : Array Value} (h : kx_G U) : ∀ w ∈ kx_T, w.before a U = true := fun w hw => kx_word h (List.mem_filter.mp hw).1 (List.mem_filter.mp hw).2
theorem kx_good {ws : List Cond} (h : ∀ w ∈ ws, w ∈ lw_tbl ∧ goodWord w = true) : GoodIn kx_T ws := fun w hw => ⟨kx_in (h w hw).1 (h w hw).2, good_of_word (h w hw).2⟩
theorem kx_gI {w0 : Cond} (h5 : w0 ∈ lw_tbl) (hg : goodWord w0 = true) : GoodIn kx_T [w0] := kx_good fun w hw => by
  rw [List.mem_singleton.mp hw]; exact ⟨h5, hg⟩
theorem kx_gV {own C : String} {idx : Nat} {y : MethodName} {w0 : Cond} (h1 : Cond.methodLink own idx y ∈ lw_tbl) (h2 : Cond.instanceMethod y ∈ lw_tbl) (h3 : Cond.selects C y y ∈ lw_tbl) (h4 : Cond.initialized C ∈ lw_tbl) (h5 : w0 ∈ lw_tbl) (hg : goodWord w0 = true) : GoodIn kx_T (wsV own idx C y [w0]) := kx_good fun w hw => by
  simp only [wsV, List.mem_append, List.mem_cons, List.not_mem_nil, or_false] at hw
  rcases hw with (rfl | rfl | rfl | rfl) | rfl
  · exact ⟨h1, rfl⟩
  · exact ⟨h2, rfl⟩
  · exact ⟨h3, rfl⟩
  · exact ⟨h4, rfl⟩
  · exact ⟨h5, hg⟩
theorem kx_gS {own : String} {idx : Nat} {y : MethodName} {w0 : Cond} (h1 : Cond.methodLink own idx y ∈ lw_tbl) (h2 : Cond.static y ∈ lw_tbl) (h4 : Cond.initialized y.cls ∈ lw_tbl) (h5 : w0 ∈ lw_tbl) (hg : goodWord w0 = true) : GoodIn kx_T (va_wsS own idx y [w0]) := kx_good fun w hw => by
  simp only [va_wsS, List.mem_append, List.mem_cons, List.not_mem_nil, or_false] at hw
  rcases hw with (rfl | rfl | rfl) | rfl
  · exact ⟨h1, rfl⟩
  · exact ⟨h2, rfl⟩
  · exact ⟨h4, rfl⟩
  · exact ⟨h5, hg⟩
theorem kx_all {ws : List Cond} (h : ∀ w ∈ ws, w ∈ lw_tbl) (hg : ∀ w ∈ ws, goodWord w = true) : ∀ w ∈ ws, w ∈ kx_T := fun w hw => kx_in (h w hw) (hg w hw)
theorem kt_X0 : ∀ w ∈ u_ws RX0 TX0 12, w ∈ kx_T := kx_all (by decide +kernel) (by decide +kernel)
theorem kt_X1 : ∀ w ∈ u_ws RX1 TX1 3, w ∈ kx_T := kx_all (by decide +kernel) (by decide +kernel)
theorem kt_X2 : ∀ w ∈ u_ws RX2 TX2 3, w ∈ kx_T := kx_all (by decide +kernel) (by decide +kernel)
theorem kt_X3 : ∀ w ∈ u_ws RX3 TX3 3, w ∈ kx_T := kx_all (by decide +kernel) (by decide +kernel)
theorem kt_X4 : ∀ w ∈ u_ws RX4 TX4 5, w ∈ kx_T := kx_all (by decide +kernel) (by decide +kernel)
theorem kt_X5 : ∀ w ∈ u_ws RX5 TX5 16, w ∈ kx_T := kx_all (by decide +kernel) (by decide +kernel)
theorem kt_X6 : ∀ w ∈ u_ws RX6 TX6 44, w ∈ kx_T := kx_all (by decide +kernel) (by decide +kernel)
def kx_Z (A : Nat → Prop) (U : State) (H : Heap) : Prop := vx_Zq Bundle.tN "UNASSIGNED_STACK" Bundle.steD A U H ∧ vx_Zq Bundle.tN "SUPPRESSED_SENTINEL" Bundle.listD A U H
theorem kx_Z.pass {A B : Nat → Prop} {s U : State} {H : Heap} {locs : List Loc} (h : kx_Z A s s.heap) (hS : va_S A s.heap H locs) (hF : ∀ q, B q → A q) (hU : U.heap = H) (hvm : s.vm.Alike U.vm) : kx_Z B U U.heap := by
  rw [hU]
  exact ⟨((h.1.kept hS.2.1).narrow hF).moved hvm, ((h.2.kept hS.2.1).narrow hF).moved hvm⟩
theorem kx_Z.call {A : Nat → Prop} {U V : State} (h : kx_Z A U U.heap) (hh : V.heap = U.heap) (hvm : V.vm = U.vm) : kx_Z A V V.heap := by
  rw [hh]
  exact ⟨h.1.moved (by rw [hvm]; exact Vm.Alike.refl U.vm), h.2.moved (by rw [hvm]; exact Vm.Alike.refl U.vm)⟩
theorem kx_F {A : Nat → Prop} {s t : State} {H : Heap} {locs : List Loc} (hS : va_S A s.heap H locs) (h1 : H.size ≤ t.heap.size) (h2 : ∀ q : Nat, q < H.size → t.heap[q]? = H[q]?) : va_F A s t :=
  ⟨Nat.le_trans hS.1 h1, fun q hq hA => (h2 q (Nat.lt_of_lt_of_le hq hS.1)).trans (hS.2.1 q hq hA)⟩
/-- the start of every contract here -/
abbrev kx_Pre (dC : Nat → ClassId) (dI : Nat → Nat → Nat) (ws : va_W) (tys : List (ClassId × FieldType)) (sz : Nat) (U : State) : Prop :=
  U.heap.size = sz ∧ va_P (dC, dI) kxCl ws U.heap ∧ va_K (dC, dI) kxCl tys U ∧ va_D (fun _ => True) ws ∧ kx_G U ∧ kx_Z (va_A ws sz) U U.heap
/-- the end's world -/
abbrev kx_At (dC : Nat → ClassId) (dI : Nat → Nat → Nat) (A : Nat → Prop) (ws : va_W) (tys : List (ClassId × FieldType)) (t : State) : Prop :=
  va_P (dC, dI) kxCl ws t.heap ∧ va_K (dC, dI) kxCl tys t ∧ va_D A ws
theorem kx_blind {dC : Nat → ClassId} {dI : Nat → Nat → Nat} {ws : va_W} {tys : List (ClassId × FieldType)} {sz : Nat} {av : List Value} : FrameBlind (va_Pc av (kx_Pre dC dI ws tys sz)) := by
  intro a U g mk q
  obtain ⟨q0, q1, qP, qK, qD, qG, qZ⟩ := q
  exact ⟨q0, q1, qP, va_K.moved (u := U) (U := U.calling g mk a) (Vm.Alike.refl U.vm) qK, qD, qG.same rfl, qZ.call rfl rfl⟩
theorem kx_give {dC : Nat → ClassId} {dI : Nat → Nat → Nat} {ws wc : va_W} {tys tc : List (ClassId × FieldType)} {av : List Value} {A : Nat → Prop} {s : State} {H : Heap} {locs : List Loc}
    (hPc : va_P (dC, dI) kxCl wc H) (hDc : va_D A wc) (hKc : va_K (dC, dI) kxCl tc s) (hG : kx_G s) (hZ : kx_Z A s s.heap) (hS : va_S A s.heap H locs) (hFc : ∀ q, va_A wc H.size q → A q) :
    ∀ U : State, U.heap = H → s.WarmedH U.vm → va_Pc av (kx_Pre dC dI wc tc H.size) av.toArray U :=
  fun U hU hW => ⟨rfl, by rw [hU], by rw [hU]; exact hPc, va_K.moved hW.alike hKc, hDc.weaken (fun _ _ _ _ => trivial), hG.go hW, hZ.pass hS hFc hU hW.alike⟩
