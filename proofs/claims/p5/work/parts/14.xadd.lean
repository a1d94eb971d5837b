/-! the landed class: a row of numbers grows -/
theorem va_ev {α : Type} (f : Nat → α) (k : Nat) (v : α) (j : Nat) : va_up f k v j = if j = k then v else f j := rfl
abbrev aU (cI : ClassId) (r n : Nat) (F : Int → Int) : va_W := [(r, .inl (cI, n, .inl (iA F)))]
abbrev bU (cB : ClassId) (r n : Nat) (F : Int → Int) : va_W := [(r, .inl (cB, n, .inl (iA F)))]
def iAdd (L z : Int) (F : Int → Int) (z' : Int) (F' : Int → Int) (v : Int) : Prop := ((L ≤ z ∧ z' = z) ∨ (z < L ∧ z' = z + 1 ∧ F' z = v)) ∧ ∀ j, 0 ≤ j → j < z → F' j = F j
def psj (L : Int) (n : Nat) : Nat := if (n : Int) < L then (3 * L - 2 * n).toNat else 0
theorem psj_le {L : Int} (h : 0 ≤ L) (n : Nat) : (psj L n : Int) ≤ 3 * L := by unfold psj; split <;> omega
theorem psj_grow {L : Int} {n n' : Nat} (h : (n : Int) < L) (h' : (n' : Int) = min L (2 * n + 4)) : psj L n' + n' ≤ psj L n := by
  unfold psj
  rw [if_pos h]
  split <;> omega
def psg (L : Int) (n : Nat) : Nat := if L ≤ (n : Int) then 0 else if 1020 ≤ n then 1 else if 508 ≤ n then 2 else if 252 ≤ n then 3 else if 124 ≤ n then 4 else if 60 ≤ n then 5 else if 28 ≤ n then 6 else if 12 ≤ n then 7 else if 4 ≤ n then 8 else 9
theorem psg_le (L : Int) (n : Nat) : psg L n ≤ 9 := by
  unfold psg
  repeat' split
  all_goals omega
theorem psg_grow {L : Int} {n n' : Nat} (hL : L ≤ 1600) (h : (n : Int) < L) (h' : (n' : Int) = min L (2 * n + 4)) : psg L n' + 1 ≤ psg L n := by
  unfold psg
  rw [if_neg (show ¬ L ≤ (n : Int) by omega)]
  by_cases c0 : L ≤ (n' : Int)
  · rw [if_pos c0]
    repeat' split
    all_goals omega
  · rw [if_neg c0]
    have e : n' = 2 * n + 4 := by omega
    subst e
    repeat' split
    all_goals omega
theorem iB_cut {F : Int → Int} (h : iB F) (k : Int) : iB (fun j => if j < k then F j else 0) := by
  intro j
  show -2147483648 ≤ (if j < k then F j else 0) ∧ (if j < k then F j else 0) < 2147483648
  split
  · exact h j
  · omega
section XA2
variable {p : Program} {l : Launch} {e : Env} {R : Room} {s : State} {m : MethodId} {args : Array Value} {below : List Frame} {meth : Method} {c : Code} {H : Heap} {locs : List Loc} {cells slots : Nat} {Q : State → Prop} {cc : ByteArray} {pc : Nat} {ls : Array Slot} {rest : List Value} {D : va_G} {cl : List vw_C} {ws : va_W} {cI cB cE : ClassId} {a : Nat} {A : Nat → Prop} {H0 : Heap}
theorem iA_zero : iA (fun _ => 0) = fun _ => (0 : Int32) := by
  funext j
  exact iz_0.symm
theorem xk_newi (hexec : p.tables.exec = Jvm.exec) (hb : c.code = cc) (harr : (Cond.arrayClass .int).before args s = true) (hK : va_K D cl (xT cI cB cE) s) (hP : va_P D cl ws H) (hD : va_D A ws) (hS : va_S A H0 H locs) (hA : ∀ q, H0.size ≤ q → A q)
    {N : Int} (h0 : 0 ≤ N) (h1 : N ≤ 6000) (hcells : cells + 1 ≤ R.cells) (hslots : slots + N.toNat ≤ R.slots) (hdg : decode cc pc = .ok (.newarray .int, 2))
    (kk : ∀ (q : Nat) (H1 : Heap), va_P D cl (ws ++ [(q, .inl (cI, N.toNat, .inl (iA fun _ => 0)))]) H1 → va_D A (ws ++ [(q, .inl (cI, N.toNat, .inl (iA fun _ => 0)))]) → va_S A H0 H1 locs →
      W p l e R s m args below meth c H1 locs (cells + 1) (slots + N.toNat) Q (F0 m (pc + 2) ls (.ref q :: rest))) : W p l e R s m args below meth c H locs cells slots Q (F0 m pc ls (.int (iz N) :: rest)) := by
  refine va_newa (atype := .int) (ty := .int) (N' := N.toNat) (a0 := (N.toNat, .inl (iA fun _ => 0))) hexec hb harr rfl hK hP hD hS hA (fun cA => by rw [iA_zero]; rfl) (fun h => by rw [iz_0, iz_lt (by omega) (by omega) (by omega) (by omega)] at h; omega) (iz_clamp (by omega) (by omega)) (by show N.toNat * 4 ≤ 536870912; omega) hcells hslots hdg (fun q cA H1 hK1 hP1 hD1 hS1 => ?_)
  have e : cA = cI := xk_cls hK1 3 0 rfl rfl rfl
  subst e
  exact kk q H1 hP1 hD1 hS1
theorem xk_newb (hexec : p.tables.exec = Jvm.exec) (hb : c.code = cc) (harr : (Cond.arrayClass .byte).before args s = true) (hK : va_K D cl (xT cI cB cE) s) (hP : va_P D cl ws H) (hD : va_D A ws) (hS : va_S A H0 H locs) (hA : ∀ q, H0.size ≤ q → A q)
    {N : Int} (h0 : 0 ≤ N) (h1 : N ≤ 6000) (hcells : cells + 1 ≤ R.cells) (hslots : slots + N.toNat ≤ R.slots) (hdg : decode cc pc = .ok (.newarray .byte, 2))
    (kk : ∀ (q : Nat) (H1 : Heap), va_P D cl (ws ++ [(q, .inl (cB, N.toNat, .inl (iA fun _ => 0)))]) H1 → va_D A (ws ++ [(q, .inl (cB, N.toNat, .inl (iA fun _ => 0)))]) → va_S A H0 H1 locs →
      W p l e R s m args below meth c H1 locs (cells + 1) (slots + N.toNat) Q (F0 m (pc + 2) ls (.ref q :: rest))) : W p l e R s m args below meth c H locs cells slots Q (F0 m pc ls (.int (iz N) :: rest)) := by
  refine va_newa (atype := .byte) (ty := .byte) (N' := N.toNat) (a0 := (N.toNat, .inl (iA fun _ => 0))) hexec hb harr rfl hK hP hD hS hA (fun cA => by rw [iA_zero]; rfl) (fun h => by rw [iz_0, iz_lt (by omega) (by omega) (by omega) (by omega)] at h; omega) (iz_clamp (by omega) (by omega)) (by show N.toNat * 1 ≤ 536870912; omega) hcells hslots hdg (fun q cA H1 hK1 hP1 hD1 hS1 => ?_)
  have e : cA = cB := xk_cls hK1 3 1 rfl rfl rfl
  subst e
  exact kk q H1 hP1 hD1 hS1
theorem iA_cpy (F : Int → Int) (k : Int) : va_cpy (iA F) (iA fun _ => 0) 0 0 k.toNat = iA (fun j => if j < k then F j else 0) := by
  funext j
  unfold va_cpy iA
  by_cases h : (j : Int) < k
  · rw [if_pos (by omega)]
    show _ = iz (if (j : Int) < k then F j else 0)
    rw [if_pos h, Nat.zero_add, Nat.sub_zero]
  · rw [if_neg (by omega)]
    show _ = iz (if (j : Int) < k then F j else 0)
    rw [if_neg h]
theorem xk_copyi (hexec : p.tables.exec = Jvm.exec) (hb : c.code = cc) (hml : c.maxLocals = ls.size) {own : String} {index : Nat} (hown : s.vm.findClass own = some m.cls) (hlink : (Cond.methodLink own index arraycopyName).before args s = true) (hnat : (Cond.native arraycopyName).before args s = true) (hstat : (Cond.static arraycopyName).before args s = true) (hini : (Cond.initialized "java/lang/System").before args s = true)
    (hK : va_K D cl (xT cI cB cE) s) (hP : va_P D cl ws H) (hD : va_D A ws) (hS : va_S A H0 H locs) (q0 q1 t0 t1 : Nat) {a0 n0 n1 : Nat} {F : Int → Int} {k : Int} (ha0 : ws[q0]? = some (a0, .inl (cI, n0, .inl (iA F)))) (ha1 : ws[q1]? = some (a, .inl (cI, n1, .inl (iA fun _ => 0)))) (ht0 : (xT cI cB cE)[t0]? = some (cI, .int)) (ht1 : (xT cI cB cE)[t1]? = some (cI, .int))
    (h0 : 0 ≤ k) (h1 : k < 2147483648) (h4 : k ≤ n0) (h5 : k ≤ n1) (hframes : 1 ≤ R.frames) (hlocals : (rest.map fun v => v.category).sum + (nativeFrameWords "java/lang/System" "arraycopy" 5 + 11) ≤ R.locals) (hdg : decode cc pc = .ok (.invokestatic index, 3))
    (kk : ∀ (H1 : Heap) (locs1 : List Loc), va_P D cl (ws.set q1 (a, .inl (cI, n1, .inl (iA fun j => if j < k then F j else 0)))) H1 → va_D A (ws.set q1 (a, .inl (cI, n1, .inl (iA fun j => if j < k then F j else 0)))) → va_S A H0 H1 locs1 → W p l e R s m args below meth c H1 locs1 cells slots Q (F0 m (pc + 3) ls rest)) : W p l e R s m args below meth c H locs cells slots Q (F0 m pc ls (.int (iz k) :: .int (iz 0) :: .ref a :: .int (iz 0) :: .ref a0 :: rest)) := by
  have e0 : (iz 0).toNatClampNeg = 0 := by decide
  have ek : (iz k).toNatClampNeg = k.toNat := iz_clamp (by omega) h1
  refine va_copyi hexec hb hml hown hlink hnat hstat hini hK hP hD hS q0 q1 t0 t1 (ty := .int) ha0 ha1 ht0 ht1 rfl (by decide) (by decide) (fun h => by rw [iz_0, iz_lt (by omega) (by omega) (by omega) (by omega)] at h; omega) (by rw [e0, ek]; omega) (by rw [e0, ek]; omega) (fun _ _ => rfl) hframes hlocals hdg (fun H1 locs1 hP1 hD1 hS1 => ?_)
  rw [e0, ek, iA_cpy] at hP1 hD1
  exact kk H1 locs1 hP1 hD1 hS1
end XA2
theorem kq_14_xadd_0 : (Cond.arrayClass .int) ∈ lw_tbl := by decide +kernel
theorem kq_14_xadd_1 : (Cond.methodLink RJ7 304 Lib.Math.min.name) ∈ lw_tbl := by decide +kernel
theorem kq_14_xadd_2 : (Cond.static Lib.Math.min.name) ∈ lw_tbl := by decide +kernel
theorem kq_14_xadd_3 : (Cond.initialized "java/lang/Math") ∈ lw_tbl := by decide +kernel
theorem kq_14_xadd_4 : (Cond.code Lib.Math.min.name Lib.Math.min.code 2 (some .int)) ∈ lw_tbl := by decide +kernel
theorem kq_14_xadd_5 : (Cond.methodLink RJ7 150 arraycopyName) ∈ lw_tbl := by decide +kernel
theorem kq_14_xadd_6 : (Cond.native arraycopyName) ∈ lw_tbl := by decide +kernel
theorem kq_14_xadd_7 : (Cond.static arraycopyName) ∈ lw_tbl := by decide +kernel
theorem kq_14_xadd_8 : (Cond.initialized "java/lang/System") ∈ lw_tbl := by decide +kernel
theorem kq_14_xadd_9 : (Cond.methodLink RX1 28 Lib.Math.min.name) ∈ lw_tbl := by decide +kernel
theorem kq_14_xadd_10 : (Cond.methodLink RX1 34 yJ7_copyOf_59c91) ∈ lw_tbl := by decide +kernel
theorem kq_14_xadd_11 : (Cond.static yJ7_copyOf_59c91) ∈ lw_tbl := by decide +kernel
theorem kq_14_xadd_12 : (Cond.initialized RJ7) ∈ lw_tbl := by decide +kernel
theorem kq_14_xadd_13 : (Cond.code yJ7_copyOf_59c91 cJ7_copyOf_59c91 3 (some (.array .int))) ∈ lw_tbl := by decide +kernel
set_option maxHeartbeats 4000000 in
set_option maxRecDepth 100000 in
theorem x_copyOf (l : Launch) (dC : Nat → ClassId) (dI : Nat → Nat → Nat) (cI cB cE : ClassId) (r : Nat) (n : Nat) (F : Int → Int) (p0 : Int) (sz : Nat) (hF : iB F) (hn0 : (n : Int) < p0 ∧ p0 ≤ 1600) : Met l yJ7_copyOf_59c91 [.code yJ7_copyOf_59c91 cJ7_copyOf_59c91 3 (some (.array .int))] ({ frames := 1, cells := 1, slots := 1600, locals := 60 }) (va_Pc [.ref r, .int (iz p0)] (kx_Pre dC dI (aU cI r n F) (xT cI cB cE) sz)) (xQ (fun u : Nat × (Int → Int) => match u with | (rq, Fq) => some (.ref rq)) (fun (u : Nat × (Int → Int)) (dn dm : Nat) => match u with | (rq, Fq) => dn ≤ 1 ∧ dm ≤ p0.toNat ∧ iB Fq ∧ ∀ j, 0 ≤ j → j < (n : Int) → Fq j = F j) (fun u t => kx_At dC dI (va_A (aU cI r n F) sz) ((fun u : Nat × (Int → Int) => match u with | (rq, Fq) => ((aU cI r n F) ++ (aU cI rq p0.toNat Fq))) u) (xT cI cB cE) t) (va_A (aU cI r n F) sz)) 1 1600 (va_A (aU cI r n F) sz) := by
  refine Met.ofW (cc := cJ7_copyOf_59c91) (maxL := 3) (ret := (some (.array .int))) (by decide) rfl ?_
  intro p e s m args below meth c s₁ B hml hv
  obtain ⟨rfl, hsz, hP, hK, hD0, hG, hZ⟩ := hv
  have hx := B.exec
  have hb := B.bytes
  have hr := B.returns
  have hts := kx_hts (a := ([.ref r, .int (iz p0)] : List Value).toArray) hG
  have hown : s.vm.findClass RJ7 = some m.cls := findClass_of_methodNamed B.named
  have hlocks := B.notSynchronized
  subst hsz
  have hD := hD0.self (sz := s.heap.size)
  generalize hAe : va_A (aU cI r n F) s.heap.size = A at hD hZ ⊢
  have hA : ∀ q : Nat, s.heap.size ≤ q → A q := fun q h => by rw [← hAe]; exact Or.inr h
  have hS : va_S A s.heap s.heap [] := va_S.rf
  have hl := lv_entry ([.ref r, .int (iz p0)]) (n := 3) (Nat.le_of_ble_eq_true rfl)
  rw [lg_entry_eq]
  generalize (lg_sl ([.ref r, .int (iz p0)]) ++ List.replicate (3 - (lg_sl ([.ref r, .int (iz p0)])).length) Slot.unset).toArray = ls at hl ⊢
  have hl : lv_has ls 3 [(0, .ref r), (1, .int (iz p0))] := hl
  refine lv_iload_n hx hb dJ7_copyOf_59c91_0 rfl (lv_at hl 1 rfl) ?_
  refine lv_aload_n hx hb dJ7_copyOf_59c91_1 rfl (lv_at hl 0 rfl) ?_
  refine xk_alen hx hb hK hP 0 0 rfl rfl dJ7_copyOf_59c91_2 ?_
  refine ki_icmp_ne (tgt := 14) hx hb dJ7_copyOf_59c91_3 (by decide) (by omega) (by omega) (by omega) (by omega) (fun c_1 => ?_) (fun c_1 => ?_)
  · skip
    refine lv_iload_n hx hb dJ7_copyOf_59c91_14 rfl (lv_at hl 1 rfl) ?_
    refine xk_newi (N := p0) hx hb (kx_word hG kq_14_xadd_0 rfl) hK hP hD hS hA (by omega) (by omega) (show 0 + 1 ≤ 1 from (by omega)) (show 0 + (p0 : Int).toNat ≤ 1600 from (by omega)) dJ7_copyOf_59c91_15 (fun q_2 H hP hD hS => ?_)
    have hP : va_P (dC, dI) kxCl ((aU cI r n F) ++ (aU cI q_2 ((p0 : Int).toNat) (fun _ => 0))) H := hP
    have hD : va_D A ((aU cI r n F) ++ (aU cI q_2 ((p0 : Int).toNat) (fun _ => 0))) := hD
    refine lv_astore_n (lv' := [(2, .ref q_2), (0, .ref r), (1, .int (iz p0))]) hx hb dJ7_copyOf_59c91_17 rfl hl (by decide) rfl (fun ls hl => ?_)
    refine lv_aload_n hx hb dJ7_copyOf_59c91_18 rfl (lv_at hl 1 rfl) ?_
    refine lv_iconst (v := iz 0) hx hb dJ7_copyOf_59c91_19 (by decide) ?_
    refine lv_aload_n hx hb dJ7_copyOf_59c91_20 rfl (lv_at hl 0 rfl) ?_
    refine lv_iconst (v := iz 0) hx hb dJ7_copyOf_59c91_21 (by decide) ?_
    refine lv_aload_n hx hb dJ7_copyOf_59c91_22 rfl (lv_at hl 1 rfl) ?_
    refine xk_alen hx hb hK hP 0 0 rfl rfl dJ7_copyOf_59c91_23 ?_
    refine lv_iload_n hx hb dJ7_copyOf_59c91_24 rfl (lv_at hl 2 rfl) ?_
    refine va_mmin hx hb (by rw [hml]; exact hl.1.symm) hown (kx_word hG kq_14_xadd_1 rfl) (kx_word hG kq_14_xadd_2 rfl) (kx_word hG kq_14_xadd_3 rfl) (kx_word hG kq_14_xadd_4 rfl) (Nat.le_of_ble_eq_true rfl) (Nat.le_of_ble_eq_true rfl) (show (0 + 1) ≤ 1 from (by omega)) (show (0 + (p0 : Int).toNat) ≤ 1600 from (by omega)) dJ7_copyOf_59c91_25 ?_
    refine ki_is (z := min ((n : Nat) : Int) p0) (iz_min (by omega) (by omega) (by omega) (by omega)) ?_
    obtain ⟨z_3, ez_3⟩ : ∃ x : Int, x = min ((n : Nat) : Int) p0 := ⟨_, rfl⟩
    rw [← ez_3]
    refine xk_copyi (k := z_3) (F := F) hx hb (by rw [hml]; exact hl.1.symm) hown (kx_word hG kq_14_xadd_5 rfl) (kx_word hG kq_14_xadd_6 rfl) (kx_word hG kq_14_xadd_7 rfl) (kx_word hG kq_14_xadd_8 rfl) hK hP hD hS 0 1 0 0 rfl rfl rfl rfl (by omega) (by omega) (by omega) (by omega) (Nat.le_of_ble_eq_true rfl) (Nat.le_of_ble_eq_true rfl) dJ7_copyOf_59c91_28 (fun H locs hP hD hS => ?_)
    have hP : va_P (dC, dI) kxCl ((aU cI r n F) ++ (aU cI q_2 ((p0 : Int).toNat) (fun j => if j < z_3 then F j else 0))) H := hP
    have hD : va_D A ((aU cI r n F) ++ (aU cI q_2 ((p0 : Int).toNat) (fun j => if j < z_3 then F j else 0))) := hD
    refine lv_aload_n hx hb dJ7_copyOf_59c91_31 rfl (lv_at hl 0 rfl) ?_
    exact xk_aret (ov := (fun u : Nat × (Int → Int) => match u with | (rq, Fq) => some (.ref rq))) (post := (fun (u : Nat × (Int → Int)) (dn dm : Nat) => match u with | (rq, Fq) => dn ≤ 1 ∧ dm ≤ p0.toNat ∧ iB Fq ∧ ∀ j, 0 ≤ j → j < (n : Int) → Fq j = F j)) (ws := (fun u : Nat × (Int → Int) => match u with | (rq, Fq) => ((aU cI r n F) ++ (aU cI rq p0.toNat Fq)))) (tys := xT cI cB cE) (x := q_2) (q_2, (fun j => if j < z_3 then F j else 0)) hx hb hr (Or.inr ⟨_, rfl⟩) hlocks rfl hP hD hK hS dJ7_copyOf_59c91_32 (fun dn dm hdn hdm => ⟨by omega, by omega, iB_cut hF _, fun j h1 h2 => if_pos (by omega)⟩) (by omega) (by omega)
  · omega
set_option maxHeartbeats 4000000 in
set_option maxRecDepth 100000 in
theorem x_add (l : Launch) (dC : Nat → ClassId) (dI : Nat → Nat → Nat) (cI cB cE : ClassId) (L : Int) (o : Nat) (r : Nat) (n : Nat) (z : Int) (F : Int → Int) (p0 : Int) (sz : Nat) (hok : 0 ≤ z ∧ z ≤ (n : Int) ∧ (n : Int) ≤ L ∧ L ≤ 1600) (hF : iB F) (hp01 : -2147483648 ≤ p0) (hp02 : p0 < 2147483648) : Met l yX1_add [.code yX1_add cX1_add 2 none] ({ frames := 2, cells := 1, slots := 1600, locals := 82 }) (va_Pc [.ref o, .int (iz p0)] (kx_Pre dC dI (iU cI L o r n z F) (xT cI cB cE) sz)) (xQ (fun _ : Nat × Nat × Int × (Int → Int) => none) (fun (u : Nat × Nat × Int × (Int → Int)) (dn dm : Nat) => match u with | (r', n', z', F') => (0 ≤ z' ∧ z' ≤ (n' : Int) ∧ (n' : Int) ≤ L) ∧ iB F' ∧ (dn + psg L n' ≤ psg L n ∧ dm + psj L n' ≤ psj L n ∧ dn ≤ 1 ∧ dm ≤ 1600) ∧ iAdd L z F z' F' p0) (fun u t => kx_At dC dI (va_A (iU cI L o r n z F) sz) ((fun u : Nat × Nat × Int × (Int → Int) => match u with | (r', n', z', F') => (iU cI L o r' n' z' F')) u) (xT cI cB cE) t) (va_A (iU cI L o r n z F) sz)) 1 1600 (va_A (iU cI L o r n z F) sz) := by
  refine Met.ofW (cc := cX1_add) (maxL := 2) (ret := none) (by decide) rfl ?_
  intro p e s m args below meth c s₁ B hml hv
  obtain ⟨rfl, hsz, hP, hK, hD0, hG, hZ⟩ := hv
  have hx := B.exec
  have hb := B.bytes
  have hr := B.returns
  have hts := kx_hts (a := ([.ref o, .int (iz p0)] : List Value).toArray) hG
  have hown : s.vm.findClass RX1 = some m.cls := findClass_of_methodNamed B.named
  have hlocks := B.notSynchronized
  subst hsz
  have hD := hD0.self (sz := s.heap.size)
  generalize hAe : va_A (iU cI L o r n z F) s.heap.size = A at hD hZ ⊢
  have hA : ∀ q : Nat, s.heap.size ≤ q → A q := fun q h => by rw [← hAe]; exact Or.inr h
  have hS : va_S A s.heap s.heap [] := va_S.rf
  have hl := lv_entry ([.ref o, .int (iz p0)]) (n := 2) (Nat.le_of_ble_eq_true rfl)
  rw [lg_entry_eq]
  generalize (lg_sl ([.ref o, .int (iz p0)]) ++ List.replicate (2 - (lg_sl ([.ref o, .int (iz p0)])).length) Slot.unset).toArray = ls at hl ⊢
  have hl : lv_has ls 2 [(0, .ref o), (1, .int (iz p0))] := hl
  refine lv_aload_n hx hb dX1_add_0 rfl (lv_at hl 0 rfl) ?_
  refine va_get (D := (dC, dI)) (ci := 1) (v := .int (iz z)) (C := RX1) (T := TX1) (N := 3) hx hb hts kt_X1 hown hK hP 0 rfl rfl 2 (by decide) (kx_word hG kq_13_xints_0 rfl) (fun _ h9 => h9) rfl dX1_add_1 ?_
  refine ki_if_lt (tgt := 18) hx hb dX1_add_4 (by decide) (by omega) (by omega) (fun c_1 => ?_) (fun c_1 => ?_)
  · skip
    exact xk_vret (ov := (fun _ : Nat × Nat × Int × (Int → Int) => none)) (post := (fun (u : Nat × Nat × Int × (Int → Int)) (dn dm : Nat) => match u with | (r', n', z', F') => (0 ≤ z' ∧ z' ≤ (n' : Int) ∧ (n' : Int) ≤ L) ∧ iB F' ∧ (dn + psg L n' ≤ psg L n ∧ dm + psj L n' ≤ psj L n ∧ dn ≤ 1 ∧ dm ≤ 1600) ∧ iAdd L z F z' F' p0)) (ws := (fun u : Nat × Nat × Int × (Int → Int) => match u with | (r', n', z', F') => (iU cI L o r' n' z' F'))) (tys := xT cI cB cE) (r, n, z, F) hx hb hr hlocks rfl hP hD hK hS dX1_add_18 (fun dn dm hdn hdm => ⟨by omega, hF, by omega, Or.inl ⟨by omega, rfl⟩, fun j _ _ => rfl⟩) (by omega) (by omega)
  · skip
    refine lv_aload_n hx hb dX1_add_7 rfl (lv_at hl 0 rfl) ?_
    refine va_get (D := (dC, dI)) (ci := 1) (v := .int (iz z)) (C := RX1) (T := TX1) (N := 3) hx hb hts kt_X1 hown hK hP 0 rfl rfl 2 (by decide) (kx_word hG kq_13_xints_0 rfl) (fun _ h9 => h9) rfl dX1_add_8 ?_
    refine lv_aload_n hx hb dX1_add_11 rfl (lv_at hl 0 rfl) ?_
    refine va_get (D := (dC, dI)) (ci := 1) (v := .int (iz L)) (C := RX1) (T := TX1) (N := 3) hx hb hts kt_X1 hown hK hP 0 rfl rfl 0 (by decide) (kx_word hG kq_13_xints_1 rfl) (fun _ h9 => h9) rfl dX1_add_12 ?_
    refine ki_icmp_lt (tgt := 19) hx hb dX1_add_15 (by decide) (by omega) (by omega) (by omega) (by omega) (fun c_2 => ?_) (fun c_2 => ?_)
    · skip
      refine lv_aload_n hx hb dX1_add_19 rfl (lv_at hl 0 rfl) ?_
      refine va_get (D := (dC, dI)) (ci := 1) (v := .int (iz z)) (C := RX1) (T := TX1) (N := 3) hx hb hts kt_X1 hown hK hP 0 rfl rfl 2 (by decide) (kx_word hG kq_13_xints_0 rfl) (fun _ h9 => h9) rfl dX1_add_20 ?_
      refine lv_aload_n hx hb dX1_add_23 rfl (lv_at hl 0 rfl) ?_
      refine va_get (D := (dC, dI)) (ci := 1) (v := .ref r) (C := RX1) (T := TX1) (N := 3) hx hb hts kt_X1 hown hK hP 0 rfl rfl 1 (by decide) (kx_word hG kq_13_xints_2 rfl) (fun _ h9 => h9) rfl dX1_add_24 ?_
      refine xk_alen hx hb hK hP 1 0 rfl rfl dX1_add_27 ?_
      refine ki_icmp_lt (tgt := 57) hx hb dX1_add_28 (by decide) (by omega) (by omega) (by omega) (by omega) (fun c_3 => ?_) (fun c_3 => ?_)
      · skip
        refine lv_aload_n hx hb dX1_add_57 rfl (lv_at hl 0 rfl) ?_
        refine va_get (D := (dC, dI)) (ci := 1) (v := .int (iz z)) (C := RX1) (T := TX1) (N := 3) hx hb hts kt_X1 hown hK hP 0 rfl rfl 2 (by decide) (kx_word hG kq_13_xints_0 rfl) (fun _ h9 => h9) rfl dX1_add_58 ?_
        refine lv_aload_n hx hb dX1_add_61 rfl (lv_at hl 0 rfl) ?_
        refine va_get (D := (dC, dI)) (ci := 1) (v := .ref r) (C := RX1) (T := TX1) (N := 3) hx hb hts kt_X1 hown hK hP 0 rfl rfl 1 (by decide) (kx_word hG kq_13_xints_2 rfl) (fun _ h9 => h9) rfl dX1_add_62 ?_
        refine xk_alen hx hb hK hP 1 0 rfl rfl dX1_add_65 ?_
        refine ki_icmp_ge (tgt := 89) hx hb dX1_add_66 (by decide) (by omega) (by omega) (by omega) (by omega) (fun c_4 => ?_) (fun c_4 => ?_)
        · omega
        · skip
          refine lv_aload_n hx hb dX1_add_69 rfl (lv_at hl 0 rfl) ?_
          refine va_get (D := (dC, dI)) (ci := 1) (v := .ref r) (C := RX1) (T := TX1) (N := 3) hx hb hts kt_X1 hown hK hP 0 rfl rfl 1 (by decide) (kx_word hG kq_13_xints_2 rfl) (fun _ h9 => h9) rfl dX1_add_70 ?_
          refine lv_aload_n hx hb dX1_add_73 rfl (lv_at hl 0 rfl) ?_
          refine va_get (D := (dC, dI)) (ci := 1) (v := .int (iz z)) (C := RX1) (T := TX1) (N := 3) hx hb hts kt_X1 hown hK hP 0 rfl rfl 2 (by decide) (kx_word hG kq_13_xints_0 rfl) (fun _ h9 => h9) rfl dX1_add_74 ?_
          refine lv_iload_n hx hb dX1_add_77 rfl (lv_at hl 1 rfl) ?_
          refine ki_iast (F := F) hx hb hK hP hD hS 1 0 rfl rfl (by omega) (by omega) (by omega) dX1_add_78 (fun H locs hP hD hS => ?_)
          have hP : va_P (dC, dI) kxCl (iU cI L o r n z (upI F z p0)) H := hP
          have hD : va_D A (iU cI L o r n z (upI F z p0)) := hD
          refine lv_aload_n hx hb dX1_add_79 rfl (lv_at hl 0 rfl) ?_
          refine lv_dup hx hb dX1_add_80 rfl ?_
          refine va_get (D := (dC, dI)) (ci := 1) (v := .int (iz z)) (C := RX1) (T := TX1) (N := 3) hx hb hts kt_X1 hown hK hP 0 rfl rfl 2 (by decide) (kx_word hG kq_13_xints_0 rfl) (fun _ h9 => h9) rfl dX1_add_81 ?_
          refine lv_iconst (v := iz 1) hx hb dX1_add_84 (by decide) ?_
          refine ki_iadd hx hb dX1_add_85 ?_
          refine va_put (D := (dC, dI)) (ci := 1) (v := .int (iz (z + 1))) (ty := .int) (C := RX1) (T := TX1) (N := 3) hx hb hts kt_X1 tyX1 tyX1_ok nmX1 hown hK hP hD hS 0 rfl rfl 2 (by decide) (kx_word hG kq_13_xints_0 rfl) (fun _ h9 => h9) rfl (by decide +kernel) rfl rfl (Nat.le_of_ble_eq_true rfl) dX1_add_86 (fun H locs hP hD hS => ?_)
          have hP : va_P (dC, dI) kxCl (iU cI L o r n (z + 1) (upI F z p0)) H := hP
          have hD : va_D A (iU cI L o r n (z + 1) (upI F z p0)) := hD
          exact xk_vret (ov := (fun _ : Nat × Nat × Int × (Int → Int) => none)) (post := (fun (u : Nat × Nat × Int × (Int → Int)) (dn dm : Nat) => match u with | (r', n', z', F') => (0 ≤ z' ∧ z' ≤ (n' : Int) ∧ (n' : Int) ≤ L) ∧ iB F' ∧ (dn + psg L n' ≤ psg L n ∧ dm + psj L n' ≤ psj L n ∧ dn ≤ 1 ∧ dm ≤ 1600) ∧ iAdd L z F z' F' p0)) (ws := (fun u : Nat × Nat × Int × (Int → Int) => match u with | (r', n', z', F') => (iU cI L o r' n' z' F'))) (tys := xT cI cB cE) (r, n, z + 1, upI F z p0) hx hb hr hlocks rfl hP hD hK hS dX1_add_89 (fun dn dm hdn hdm => ⟨by omega, iB_up hF _ (by omega) (by omega), by omega, Or.inr ⟨by omega, rfl, upI_self _ _ _⟩, fun j h1 h2 => upI_ne _ _ (by omega)⟩) (by omega) (by omega)
      · skip
        refine lv_aload_n hx hb dX1_add_31 rfl (lv_at hl 0 rfl) ?_
        refine lv_aload_n hx hb dX1_add_32 rfl (lv_at hl 0 rfl) ?_
        refine va_get (D := (dC, dI)) (ci := 1) (v := .ref r) (C := RX1) (T := TX1) (N := 3) hx hb hts kt_X1 hown hK hP 0 rfl rfl 1 (by decide) (kx_word hG kq_13_xints_2 rfl) (fun _ h9 => h9) rfl dX1_add_33 ?_
        refine lv_aload_n hx hb dX1_add_36 rfl (lv_at hl 0 rfl) ?_
        refine va_get (D := (dC, dI)) (ci := 1) (v := .int (iz L)) (C := RX1) (T := TX1) (N := 3) hx hb hts kt_X1 hown hK hP 0 rfl rfl 0 (by decide) (kx_word hG kq_13_xints_1 rfl) (fun _ h9 => h9) rfl dX1_add_37 ?_
        refine lv_iconst (v := iz 2) hx hb dX1_add_40 (by decide) ?_
        refine lv_aload_n hx hb dX1_add_41 rfl (lv_at hl 0 rfl) ?_
        refine va_get (D := (dC, dI)) (ci := 1) (v := .int (iz z)) (C := RX1) (T := TX1) (N := 3) hx hb hts kt_X1 hown hK hP 0 rfl rfl 2 (by decide) (kx_word hG kq_13_xints_0 rfl) (fun _ h9 => h9) rfl dX1_add_42 ?_
        refine ki_imul hx hb dX1_add_45 ?_
        refine lv_iconst (v := iz 4) hx hb dX1_add_46 (by decide) ?_
        refine ki_iadd hx hb dX1_add_47 ?_
        refine va_mmin hx hb (by rw [hml]; exact hl.1.symm) hown (kx_word hG kq_14_xadd_9 rfl) (kx_word hG kq_14_xadd_2 rfl) (kx_word hG kq_14_xadd_3 rfl) (kx_word hG kq_14_xadd_4 rfl) (Nat.le_of_ble_eq_true rfl) (Nat.le_of_ble_eq_true rfl) (show 0 ≤ 1 from (by omega)) (show 0 ≤ 1600 from (by omega)) dX1_add_48 ?_
        refine ki_is (z := min L ((2 * z) + 4)) (iz_min (by omega) (by omega) (by omega) (by omega)) ?_
        obtain ⟨z_5, ez_5⟩ : ∃ x : Int, x = min L ((2 * z) + 4) := ⟨_, rfl⟩
        rw [← ez_5]
        have hPc := hP.sub (ws' := (aU cI r n F)) [1] rfl
        have hDc := hD.sub (ws' := (aU cI r n F)) [1] (by decide) rfl
        have hFc := va_free (wc := (aU cI r n F)) hD hS hA [1] rfl
        refine xk_call (va_runS (As := [.ref r, .int (iz z_5)]) (rest := [.ref o]) ⟨hx, hb, hml, hown, hts⟩ (x_copyOf l dC dI cI cB cE r n F z_5 s.heap.size hF (by omega)) (va_cwS 2 hts (kx_gS kq_14_xadd_10 kq_14_xadd_11 kq_14_xadd_12 kq_14_xadd_13 rfl) rfl rfl rfl (by decide +kernel) ⟨Nat.le_of_ble_eq_true rfl, Nat.le_of_ble_eq_true rfl⟩) ⟨kx_blind, kx_give (ws := []) (tys := []) hPc hDc hK hG hZ hS hFc⟩ rfl rfl hl.1 rfl (lv_room (Nat.le_of_ble_eq_true rfl)) dX1_add_51 ⟨show 0 + 1 ≤ 1 from (by omega), show 0 + 1600 ≤ 1600 from (by omega)⟩) hS (fun q _ h => hFc q h) hFc (fun u dn_7 dm_8 t H locs ht hvm hq_6 hB hk1 hS => ?_)
        obtain ⟨rq_9, Fq_10⟩ := u
        obtain ⟨hP1, hK1, hD1⟩ := hB
        rw [ht] at hP1
        obtain ⟨hP, hD⟩ := xj (wr := [(o, .inr (1, [.int (iz L), .ref r, .int (iz z)]))]) (w1 := ((aU cI r n F) ++ (aU cI rq_9 z_5.toNat Fq_10))) (ws' := ((iU cI L o r n z F) ++ (aU cI rq_9 z_5.toNat Fq_10))) hP hD [1] [0] [0, 1, 2] rfl rfl (by decide) (by decide) hk1 hFc hP1 hD1 rfl (by decide)
        refine W.eq (g2 := F0 m 54 ls [.ref rq_9, .ref o]) rfl ?_
        try dsimp only at hq_6
        obtain ⟨hd9, hm9, hFq, hpq⟩ := hq_6
        have hg9 : psj L z_5.toNat + z_5.toNat ≤ psj L n := psj_grow (by omega) (by omega)
        have hg8 : psg L z_5.toNat + 1 ≤ psg L n := psg_grow (by omega) (by omega) (by omega)
        refine va_put (D := (dC, dI)) (ci := 1) (v := .ref rq_9) (ty := .array .int) (C := RX1) (T := TX1) (N := 3) hx hb hts kt_X1 tyX1 tyX1_ok nmX1 hown hK hP hD hS 0 rfl rfl 1 (by decide) (kx_word hG kq_13_xints_2 rfl) (fun _ h9 => h9) rfl (by decide +kernel) rfl rfl (Nat.le_of_ble_eq_true rfl) dX1_add_54 (fun H locs hP hD hS => ?_)
        have hP := hP.sub (ws' := (iU cI L o rq_9 z_5.toNat z Fq_10)) [0, 2] rfl
        have hD := hD.sub (ws' := (iU cI L o rq_9 z_5.toNat z Fq_10)) [0, 2] (by decide) rfl
        refine lv_aload_n hx hb dX1_add_57 rfl (lv_at hl 0 rfl) ?_
        refine va_get (D := (dC, dI)) (ci := 1) (v := .int (iz z)) (C := RX1) (T := TX1) (N := 3) hx hb hts kt_X1 hown hK hP 0 rfl rfl 2 (by decide) (kx_word hG kq_13_xints_0 rfl) (fun _ h9 => h9) rfl dX1_add_58 ?_
        refine lv_aload_n hx hb dX1_add_61 rfl (lv_at hl 0 rfl) ?_
        refine va_get (D := (dC, dI)) (ci := 1) (v := .ref rq_9) (C := RX1) (T := TX1) (N := 3) hx hb hts kt_X1 hown hK hP 0 rfl rfl 1 (by decide) (kx_word hG kq_13_xints_2 rfl) (fun _ h9 => h9) rfl dX1_add_62 ?_
        refine xk_alen hx hb hK hP 1 0 rfl rfl dX1_add_65 ?_
        refine ki_icmp_ge (tgt := 89) hx hb dX1_add_66 (by decide) (by omega) (by omega) (by omega) (by omega) (fun c_11 => ?_) (fun c_11 => ?_)
        · skip
          exact xk_vret (ov := (fun _ : Nat × Nat × Int × (Int → Int) => none)) (post := (fun (u : Nat × Nat × Int × (Int → Int)) (dn dm : Nat) => match u with | (r', n', z', F') => (0 ≤ z' ∧ z' ≤ (n' : Int) ∧ (n' : Int) ≤ L) ∧ iB F' ∧ (dn + psg L n' ≤ psg L n ∧ dm + psj L n' ≤ psj L n ∧ dn ≤ 1 ∧ dm ≤ 1600) ∧ iAdd L z F z' F' p0)) (ws := (fun u : Nat × Nat × Int × (Int → Int) => match u with | (r', n', z', F') => (iU cI L o r' n' z' F'))) (tys := xT cI cB cE) (rq_9, z_5.toNat, z, Fq_10) hx hb hr hlocks rfl hP hD hK hS dX1_add_89 (fun dn dm hdn hdm => (show False by omega).elim) (by omega) (by omega)
        · skip
          refine lv_aload_n hx hb dX1_add_69 rfl (lv_at hl 0 rfl) ?_
          refine va_get (D := (dC, dI)) (ci := 1) (v := .ref rq_9) (C := RX1) (T := TX1) (N := 3) hx hb hts kt_X1 hown hK hP 0 rfl rfl 1 (by decide) (kx_word hG kq_13_xints_2 rfl) (fun _ h9 => h9) rfl dX1_add_70 ?_
          refine lv_aload_n hx hb dX1_add_73 rfl (lv_at hl 0 rfl) ?_
          refine va_get (D := (dC, dI)) (ci := 1) (v := .int (iz z)) (C := RX1) (T := TX1) (N := 3) hx hb hts kt_X1 hown hK hP 0 rfl rfl 2 (by decide) (kx_word hG kq_13_xints_0 rfl) (fun _ h9 => h9) rfl dX1_add_74 ?_
          refine lv_iload_n hx hb dX1_add_77 rfl (lv_at hl 1 rfl) ?_
          refine ki_iast (F := Fq_10) hx hb hK hP hD hS 1 0 rfl rfl (by omega) (by omega) (by omega) dX1_add_78 (fun H locs hP hD hS => ?_)
          have hP : va_P (dC, dI) kxCl (iU cI L o rq_9 z_5.toNat z (upI Fq_10 z p0)) H := hP
          have hD : va_D A (iU cI L o rq_9 z_5.toNat z (upI Fq_10 z p0)) := hD
          refine lv_aload_n hx hb dX1_add_79 rfl (lv_at hl 0 rfl) ?_
          refine lv_dup hx hb dX1_add_80 rfl ?_
          refine va_get (D := (dC, dI)) (ci := 1) (v := .int (iz z)) (C := RX1) (T := TX1) (N := 3) hx hb hts kt_X1 hown hK hP 0 rfl rfl 2 (by decide) (kx_word hG kq_13_xints_0 rfl) (fun _ h9 => h9) rfl dX1_add_81 ?_
          refine lv_iconst (v := iz 1) hx hb dX1_add_84 (by decide) ?_
          refine ki_iadd hx hb dX1_add_85 ?_
          refine va_put (D := (dC, dI)) (ci := 1) (v := .int (iz (z + 1))) (ty := .int) (C := RX1) (T := TX1) (N := 3) hx hb hts kt_X1 tyX1 tyX1_ok nmX1 hown hK hP hD hS 0 rfl rfl 2 (by decide) (kx_word hG kq_13_xints_0 rfl) (fun _ h9 => h9) rfl (by decide +kernel) rfl rfl (Nat.le_of_ble_eq_true rfl) dX1_add_86 (fun H locs hP hD hS => ?_)
          have hP : va_P (dC, dI) kxCl (iU cI L o rq_9 z_5.toNat (z + 1) (upI Fq_10 z p0)) H := hP
          have hD : va_D A (iU cI L o rq_9 z_5.toNat (z + 1) (upI Fq_10 z p0)) := hD
          exact xk_vret (ov := (fun _ : Nat × Nat × Int × (Int → Int) => none)) (post := (fun (u : Nat × Nat × Int × (Int → Int)) (dn dm : Nat) => match u with | (r', n', z', F') => (0 ≤ z' ∧ z' ≤ (n' : Int) ∧ (n' : Int) ≤ L) ∧ iB F' ∧ (dn + psg L n' ≤ psg L n ∧ dm + psj L n' ≤ psj L n ∧ dn ≤ 1 ∧ dm ≤ 1600) ∧ iAdd L z F z' F' p0)) (ws := (fun u : Nat × Nat × Int × (Int → Int) => match u with | (r', n', z', F') => (iU cI L o r' n' z' F'))) (tys := xT cI cB cE) (rq_9, z_5.toNat, z + 1, upI Fq_10 z p0) hx hb hr hlocks rfl hP hD hK hS dX1_add_89 (fun dn dm hdn hdm => ⟨by omega, iB_up hFq _ (by omega) (by omega), by omega, Or.inr ⟨by omega, rfl, upI_self _ _ _⟩, fun j h1 h2 => (upI_ne _ _ (by omega)).trans (hpq j h1 (by omega))⟩) (by omega) (by omega)
    · skip
      exact xk_vret (ov := (fun _ : Nat × Nat × Int × (Int → Int) => none)) (post := (fun (u : Nat × Nat × Int × (Int → Int)) (dn dm : Nat) => match u with | (r', n', z', F') => (0 ≤ z' ∧ z' ≤ (n' : Int) ∧ (n' : Int) ≤ L) ∧ iB F' ∧ (dn + psg L n' ≤ psg L n ∧ dm + psj L n' ≤ psj L n ∧ dn ≤ 1 ∧ dm ≤ 1600) ∧ iAdd L z F z' F' p0)) (ws := (fun u : Nat × Nat × Int × (Int → Int) => match u with | (r', n', z', F') => (iU cI L o r' n' z' F'))) (tys := xT cI cB cE) (r, n, z, F) hx hb hr hlocks rfl hP hD hK hS dX1_add_18 (fun dn dm hdn hdm => ⟨by omega, hF, by omega, Or.inl ⟨by omega, rfl⟩, fun j _ _ => rfl⟩) (by omega) (by omega)
