/-! the landed class: its entries as a pool; its world -/
theorem va_P.mem {D : va_G} {cl : List vw_C} {ws ws' : va_W} {H : Heap} (h : va_P D cl ws H) (hp : ∀ q, q ∈ ws' → q ∈ ws) : va_P D cl ws' H := fun k q hk => by
  obtain ⟨i, hi⟩ := List.getElem?_of_mem (hp q (List.mem_of_getElem? hk))
  exact h i q hi
theorem va_D.nd {A : Nat → Prop} {ws : va_W} (h : va_D A ws) : (ws.map Prod.fst).Nodup := by
  rw [List.Nodup, List.pairwise_iff_getElem]
  intro i j hi hj hij e
  rw [List.length_map] at hi hj
  rw [List.getElem_map, List.getElem_map] at e
  have := h.1 i j ws[i] ws[j] (List.getElem?_eq_getElem hi) (List.getElem?_eq_getElem hj) e
  omega
theorem va_D.of {A : Nat → Prop} {ws : va_W} (h : (ws.map Prod.fst).Nodup) (h2 : ∀ q, q ∈ ws → A q.1) : va_D A ws := by
  refine ⟨fun i j p q hi hj e => ?_, fun k q hk => h2 q (List.mem_of_getElem? hk)⟩
  rw [List.Nodup, List.pairwise_iff_getElem] at h
  obtain ⟨hi1, hi2⟩ := List.getElem?_eq_some_iff.mp hi
  obtain ⟨hj1, hj2⟩ := List.getElem?_eq_some_iff.mp hj
  rcases Nat.lt_trichotomy i j with c | c | c
  · exact absurd (by rw [List.getElem_map, List.getElem_map, hi2, hj2]; exact e) (h i j (by rw [List.length_map]; exact hi1) (by rw [List.length_map]; exact hj1) c)
  · exact c
  · exact absurd (by rw [List.getElem_map, List.getElem_map, hi2, hj2]; exact e.symm) (h j i (by rw [List.length_map]; exact hj1) (by rw [List.length_map]; exact hi1) c)
theorem va_D.perm {A : Nat → Prop} {ws ws' : va_W} (h : va_D A ws) (hp : List.Perm ws ws') : va_D A ws' :=
  va_D.of ((hp.map Prod.fst).nodup h.nd) (fun q hq => by
    obtain ⟨i, hi⟩ := List.getElem?_of_mem (hp.mem_iff.mpr hq)
    exact h.2 i q hi)
theorem va_P.perm {D : va_G} {cl : List vw_C} {ws ws' : va_W} {H : Heap} (h : va_P D cl ws H) (hp : List.Perm ws ws') : va_P D cl ws' H := h.mem (fun _ hq => hp.mem_iff.mpr hq)
theorem fm_congr {f g : Nat → va_W} : ∀ (l : List Nat), (∀ j, j ∈ l → f j = g j) → l.flatMap f = l.flatMap g
  | [], _ => rfl
  | a :: l, h => by
    rw [List.flatMap_cons, List.flatMap_cons, h a (List.mem_cons_self ..), fm_congr l (fun j hj => h j (List.mem_cons_of_mem _ hj))]
abbrev eF (cI : ClassId) (Eo Er En : Nat → Nat → Nat) (Ez : Nat → Nat → Int) (EF : Nat → Nat → Int → Int) (j : Nat) : va_W := eU cI (Eo j) (Er j) (En j) (Ez j) (EF j)
def eP (cI : ClassId) (N : Nat) (Eo Er En : Nat → Nat → Nat) (Ez : Nat → Nat → Int) (EF : Nat → Nat → Int → Int) : va_W := (List.range N).flatMap (eF cI Eo Er En Ez EF)
def eR (cI : ClassId) (N J : Nat) (Eo Er En : Nat → Nat → Nat) (Ez : Nat → Nat → Int) (EF : Nat → Nat → Int → Int) : va_W := ((List.range N).erase J).flatMap (eF cI Eo Er En Ez EF)
section EPL
variable {D : va_G} {cl : List vw_C} {X : va_W} {H : Heap} {A : Nat → Prop} {cI : ClassId} {N J : Nat} {Eo Er En : Nat → Nat → Nat} {Ez : Nat → Nat → Int} {EF : Nat → Nat → Int → Int} {r n : Nat → Nat} {z : Nat → Int} {F : Nat → Int → Int}
theorem eP_pm (hJ : J < N) : List.Perm (eP cI N Eo Er En Ez EF) (eU cI (Eo J) (Er J) (En J) (Ez J) (EF J) ++ eR cI N J Eo Er En Ez EF) := by
  have h := (List.perm_cons_erase (List.mem_range.mpr hJ)).flatMap_right (eF cI Eo Er En Ez EF)
  rw [List.flatMap_cons] at h
  exact h
theorem eR_up : eR cI N J Eo (va_up Er J r) (va_up En J n) (va_up Ez J z) (va_up EF J F) = eR cI N J Eo Er En Ez EF := by
  refine fm_congr _ (fun j hj => ?_)
  have hne : j ≠ J := fun e => by
    rw [e] at hj
    exact List.Nodup.not_mem_erase List.nodup_range hj
  show eU cI (Eo j) (va_up Er J r j) (va_up En J n j) (va_up Ez J z j) (va_up EF J F j) = _
  rw [va_up_ne _ _ hne, va_up_ne _ _ hne, va_up_ne _ _ hne, va_up_ne _ _ hne]
theorem eX_pm (hJ : J < N) : List.Perm (X ++ eP cI N Eo Er En Ez EF) ((X ++ eU cI (Eo J) (Er J) (En J) (Ez J) (EF J)) ++ eR cI N J Eo Er En Ez EF) := by
  rw [List.append_assoc]
  exact (eP_pm hJ).append_left X
theorem eX_pu (hJ : J < N) : List.Perm ((X ++ eU cI (Eo J) r n z F) ++ eR cI N J Eo Er En Ez EF) (X ++ eP cI N Eo (va_up Er J r) (va_up En J n) (va_up Ez J z) (va_up EF J F)) := by
  have h := eX_pm (X := X) (cI := cI) (Eo := Eo) (Er := va_up Er J r) (En := va_up En J n) (Ez := va_up Ez J z) (EF := va_up EF J F) hJ
  rw [eR_up, va_up_self, va_up_self, va_up_self, va_up_self] at h
  exact h.symm
theorem eP_foc (hJ : J < N) (h : va_P D cl (X ++ eP cI N Eo Er En Ez EF) H) : va_P D cl ((X ++ eU cI (Eo J) (Er J) (En J) (Ez J) (EF J)) ++ eR cI N J Eo Er En Ez EF) H := h.perm (eX_pm hJ)
theorem eD_foc (hJ : J < N) (h : va_D A (X ++ eP cI N Eo Er En Ez EF)) : va_D A ((X ++ eU cI (Eo J) (Er J) (En J) (Ez J) (EF J)) ++ eR cI N J Eo Er En Ez EF) := h.perm (eX_pm hJ)
theorem eP_un0 (hJ : J < N) (h : va_P D cl ((X ++ eU cI (Eo J) (Er J) (En J) (Ez J) (EF J)) ++ eR cI N J Eo Er En Ez EF) H) : va_P D cl (X ++ eP cI N Eo Er En Ez EF) H := h.perm (eX_pm hJ).symm
theorem eD_un0 (hJ : J < N) (h : va_D A ((X ++ eU cI (Eo J) (Er J) (En J) (Ez J) (EF J)) ++ eR cI N J Eo Er En Ez EF)) : va_D A (X ++ eP cI N Eo Er En Ez EF) := h.perm (eX_pm hJ).symm
theorem eP_unf (hJ : J < N) (h : va_P D cl ((X ++ eU cI (Eo J) r n z F) ++ eR cI N J Eo Er En Ez EF) H) : va_P D cl (X ++ eP cI N Eo (va_up Er J r) (va_up En J n) (va_up Ez J z) (va_up EF J F)) H := h.perm (eX_pu hJ)
theorem eD_unf (hJ : J < N) (h : va_D A ((X ++ eU cI (Eo J) r n z F) ++ eR cI N J Eo Er En Ez EF)) : va_D A (X ++ eP cI N Eo (va_up Er J r) (va_up En J n) (va_up Ez J z) (va_up EF J F)) := h.perm (eX_pu hJ)
theorem eP_get (hJ : J < N) (h : va_P D cl (X ++ eP cI N Eo Er En Ez EF) H) : va_P D cl (eU cI (Eo J) (Er J) (En J) (Ez J) (EF J)) H :=
  (eP_foc hJ h).mem (fun q hq => List.mem_append_left _ (List.mem_append_right _ hq))
theorem eP_hd {pl : va_W} (h : va_P D cl (X ++ pl) H) : va_P D cl X H := h.mem (fun q hq => List.mem_append_left _ hq)
theorem eX_push {o : Nat → Nat} : List.Perm ((X ++ eU cI o r n z F) ++ eP cI N Eo Er En Ez EF) (X ++ eP cI (N + 1) (va_up Eo N o) (va_up Er N r) (va_up En N n) (va_up Ez N z) (va_up EF N F)) := by
  have h1 : eP cI (N + 1) (va_up Eo N o) (va_up Er N r) (va_up En N n) (va_up Ez N z) (va_up EF N F) = eP cI N Eo Er En Ez EF ++ eU cI o r n z F := by
    unfold eP
    rw [List.range_succ, List.flatMap_append]
    congr 1
    · refine fm_congr _ (fun j hj => ?_)
      have hne : j ≠ N := Nat.ne_of_lt (List.mem_range.mp hj)
      show eU cI (va_up Eo N o j) (va_up Er N r j) (va_up En N n j) (va_up Ez N z j) (va_up EF N F j) = _
      rw [va_up_ne _ _ hne, va_up_ne _ _ hne, va_up_ne _ _ hne, va_up_ne _ _ hne, va_up_ne _ _ hne]
    · rw [List.flatMap_cons, List.flatMap_nil, List.append_nil]
      show eU cI (va_up Eo N o N) (va_up Er N r N) (va_up En N n N) (va_up Ez N z N) (va_up EF N F N) = _
      rw [va_up_self, va_up_self, va_up_self, va_up_self, va_up_self]
  rw [h1, List.append_assoc]
  exact List.perm_append_comm.append_left X
end EPL
/-- what holds of every entry -/
def eA (N : Nat) (En : Nat → Nat → Nat) (Ez : Nat → Nat → Int) (EF : Nat → Nat → Int → Int) : Prop := ∀ j, j < N → eOk (En j) (Ez j) (EF j)
/-- what may differ of the entries: the numbers of S, the rows of numbers of T -/
def eFr (S T : List Nat) (En : Nat → Nat → Nat) (Ez : Nat → Nat → Int) (EF : Nat → Nat → Int → Int) (En' : Nat → Nat → Nat) (Ez' : Nat → Nat → Int) (EF' : Nat → Nat → Int → Int) : Prop :=
  (∀ j k, k ∉ S → Ez' j k = Ez j k) ∧ ∀ j k, k ∉ T → En' j k = En j k ∧ EF' j k = EF j k
section EFR
variable {S T S' T' : List Nat} {N J : Nat} {En En1 En2 : Nat → Nat → Nat} {Ez Ez1 Ez2 : Nat → Nat → Int} {EF EF1 EF2 : Nat → Nat → Int → Int} {n : Nat → Nat} {z : Nat → Int} {F : Nat → Int → Int}
theorem eFr.rf : eFr S T En Ez EF En Ez EF := ⟨fun _ _ _ => rfl, fun _ _ _ => ⟨rfl, rfl⟩⟩
theorem eFr.tr (h : eFr S T En Ez EF En1 Ez1 EF1) (h2 : eFr S T En1 Ez1 EF1 En2 Ez2 EF2) : eFr S T En Ez EF En2 Ez2 EF2 :=
  ⟨fun j k q => (h2.1 j k q).trans (h.1 j k q), fun j k q => ⟨(h2.2 j k q).1.trans (h.2 j k q).1, (h2.2 j k q).2.trans (h.2 j k q).2⟩⟩
theorem eFr.mono (h : eFr S T En Ez EF En1 Ez1 EF1) (h1 : ∀ k, k ∈ S → k ∈ S') (h2 : ∀ k, k ∈ T → k ∈ T') : eFr S' T' En Ez EF En1 Ez1 EF1 :=
  ⟨fun j k q => h.1 j k (fun x => q (h1 k x)), fun j k q => h.2 j k (fun x => q (h2 k x))⟩
theorem eFr.up (h : eFr S T En Ez EF En1 Ez1 EF1) (J : Nat) (h1 : ∀ k, k ∉ S → z k = Ez1 J k) (h2 : ∀ k, k ∉ T → n k = En1 J k ∧ F k = EF1 J k) : eFr S T En Ez EF (va_up En1 J n) (va_up Ez1 J z) (va_up EF1 J F) := by
  refine ⟨fun j k q => ?_, fun j k q => ?_⟩ <;> by_cases e : j = J
  · subst e; rw [va_up_self, h1 k q]; exact h.1 j k q
  · rw [va_up_ne _ _ e]; exact h.1 j k q
  · subst e; rw [va_up_self, va_up_self, (h2 k q).1, (h2 k q).2]; exact h.2 j k q
  · rw [va_up_ne _ _ e, va_up_ne _ _ e]; exact h.2 j k q
theorem eA.up (h : eA N En Ez EF) (J : Nat) (h1 : eOk n z F) : eA N (va_up En J n) (va_up Ez J z) (va_up EF J F) := by
  intro j hj
  by_cases e : j = J
  · subst e; rw [va_up_self, va_up_self, va_up_self]; exact h1
  · rw [va_up_ne _ _ e, va_up_ne _ _ e, va_up_ne _ _ e]; exact h j hj
theorem vfr {α : Type} {f g : Nat → α} {S : List Nat} {k : Nat} (hk : k ∉ S) {i : Nat} (v : α) (hi : i ∈ S) (h : f k = g k) : va_up f i v k = g k := by
  rw [va_up_ne _ _ (fun e => hk (by rw [e]; exact hi))]
  exact h
end EFR
abbrev xU (cI cB cE : ClassId) (o r n : Nat → Nat) (z : Nat → Int) (F : Nat → Int → Int) (G : Nat → Option Nat) (nb : Nat) : va_W := [(o 15, .inr (5, [.ref (o 16), .ref nb, .int (iz (z 12)), .int (iz (z 13)), .int (iz (z 14)), .ref (o 0), .ref (o 1), .int (iz (z 15)), .ref (o 13), .ref (o 14), .int (iz (z 16)), .ref (o 2), .ref (o 12), .ref (o 3), .ref (o 10), .ref (o 11)])), (o 16, .inl (cE, 80, .inr (.inr (.inr (.inr G))))), (o 0, .inr (1, [.int (iz 80), .ref (r 0), .int (iz (z 0))])), (r 0, .inl (cI, n 0, .inl (iA (F 0)))), (o 1, .inr (1, [.int (iz 80), .ref (r 1), .int (iz (z 1))])), (r 1, .inl (cI, n 1, .inl (iA (F 1)))), (o 2, .inr (1, [.int (iz 80), .ref (r 2), .int (iz (z 2))])), (r 2, .inl (cI, n 2, .inl (iA (F 2)))), (o 3, .inr (1, [.int (iz 80), .ref (r 3), .int (iz (z 3))])), (r 3, .inl (cI, n 3, .inl (iA (F 3)))), (o 13, .inr (3, [.ref (o 4), .ref (o 5), .ref (o 6)])), (o 4, .inr (1, [.int (iz 1600), .ref (r 4), .int (iz (z 4))])), (r 4, .inl (cI, n 4, .inl (iA (F 4)))), (o 5, .inr (1, [.int (iz 1600), .ref (r 5), .int (iz (z 5))])), (r 5, .inl (cI, n 5, .inl (iA (F 5)))), (o 6, .inr (1, [.int (iz 1600), .ref (r 6), .int (iz (z 6))])), (r 6, .inl (cI, n 6, .inl (iA (F 6)))), (o 14, .inr (3, [.ref (o 7), .ref (o 8), .ref (o 9)])), (o 7, .inr (1, [.int (iz 1600), .ref (r 7), .int (iz (z 7))])), (r 7, .inl (cI, n 7, .inl (iA (F 7)))), (o 8, .inr (1, [.int (iz 1600), .ref (r 8), .int (iz (z 8))])), (r 8, .inl (cI, n 8, .inl (iA (F 8)))), (o 9, .inr (1, [.int (iz 1600), .ref (r 9), .int (iz (z 9))])), (r 9, .inl (cI, n 9, .inl (iA (F 9)))), (o 12, .inr (4, [.int (iz (z 17)), .int (iz (z 18)), .int (iz (z 19)), .int (iz (z 20)), .int (iz (z 21))])), (o 10, .inr (2, [.ref (r 10), .int (iz (z 10)), .int (iz (z 22))])), (r 10, .inl (cB, n 10, .inl (iA (F 10)))), (o 11, .inr (2, [.ref (r 11), .int (iz (z 11)), .int (iz (z 23))])), (r 11, .inl (cB, n 11, .inl (iA (F 11))))]
def xL (k : Nat) : Int := if k < 4 then 80 else 1600
/-- what holds of the object's own numbers -/
def xOk (n : Nat → Nat) (z : Nat → Int) (F : Nat → Int → Int) : Prop :=
  (∀ k, k < 10 → 0 ≤ z k ∧ z k ≤ (n k : Int) ∧ (n k : Int) ≤ xL k) ∧ (∀ k, k = 10 ∨ k = 11 → 0 ≤ z k ∧ z k ≤ (n k : Int) ∧ (n k = 0 ∨ n k = 6000)) ∧ (∀ k, iB (F k)) ∧ (∀ k, -2147483648 ≤ z k ∧ z k < 2147483648) ∧ ∀ k, k = 13 ∨ k = 14 ∨ k = 15 ∨ k = 22 ∨ k = 23 → z k = 0 ∨ z k = 1
/-- what may differ of the object's own -/
def xFr (S T : List Nat) (z : Nat → Int) (F : Nat → Int → Int) (z' : Nat → Int) (F' : Nat → Int → Int) : Prop := (∀ k, k ∉ S → z' k = z k) ∧ ∀ k, k ∉ T → F' k = F k
section XFR
variable {S T S' T' : List Nat} {n n1 : Nat → Nat} {z z1 z2 : Nat → Int} {F F1 F2 : Nat → Int → Int} {n' : Nat} {z' : Int} {F' : Int → Int}
theorem xFr.rf : xFr S T z F z F := ⟨fun _ _ => rfl, fun _ _ => rfl⟩
theorem xFr.tr (h : xFr S T z F z1 F1) (h2 : xFr S T z1 F1 z2 F2) : xFr S T z F z2 F2 := ⟨fun k q => (h2.1 k q).trans (h.1 k q), fun k q => (h2.2 k q).trans (h.2 k q)⟩
theorem xFr.mono (h : xFr S T z F z1 F1) (h1 : ∀ k, k ∈ S → k ∈ S') (h2 : ∀ k, k ∈ T → k ∈ T') : xFr S' T' z F z1 F1 := ⟨fun k q => h.1 k (fun x => q (h1 k x)), fun k q => h.2 k (fun x => q (h2 k x))⟩
theorem xFr.uz (h : xFr S T z F z1 F1) (k : Nat) (hk : k ∈ S) (v : Int) : xFr S T z F (va_up z1 k v) F1 := ⟨fun j q => vfr q v hk (h.1 j q), h.2⟩
theorem xFr.uf (h : xFr S T z F z1 F1) (k : Nat) (hk : k ∈ T) (v : Int → Int) : xFr S T z F z1 (va_up F1 k v) := ⟨h.1, fun j q => vfr q v hk (h.2 j q)⟩
theorem xOk.i (h : xOk n z F) (k : Nat) (hk : k < 10) (h1 : 0 ≤ z' ∧ z' ≤ (n' : Int) ∧ (n' : Int) ≤ xL k) (h2 : iB F') : xOk (va_up n k n') (va_up z k z') (va_up F k F') := by
  have hl : xL k ≤ 1600 := by unfold xL; split <;> omega
  refine ⟨fun j hj => ?_, fun j hj => ?_, fun j => ?_, fun j => ?_, fun j hj => ?_⟩ <;> unfold va_up <;> by_cases e : j = k
  · rw [if_pos e, if_pos e, e]; exact h1
  · rw [if_neg e, if_neg e]; exact h.1 j hj
  · omega
  · rw [if_neg e, if_neg e]; exact h.2.1 j hj
  · rw [if_pos e]; exact h2
  · rw [if_neg e]; exact h.2.2.1 j
  · rw [if_pos e]; omega
  · rw [if_neg e]; exact h.2.2.2.1 j
  · omega
  · rw [if_neg e]; exact h.2.2.2.2 j hj
theorem xOk.p (h : xOk n z F) (k : Nat) (hk : k = 10 ∨ k = 11) (h1 : 0 ≤ z' ∧ z' ≤ (n' : Int) ∧ (n' = 0 ∨ n' = 6000)) (h2 : iB F') : xOk (va_up n k n') (va_up z k z') (va_up F k F') := by
  refine ⟨fun j hj => ?_, fun j hj => ?_, fun j => ?_, fun j => ?_, fun j hj => ?_⟩ <;> unfold va_up <;> by_cases e : j = k
  · omega
  · rw [if_neg e, if_neg e]; exact h.1 j hj
  · rw [if_pos e, if_pos e]; exact h1
  · rw [if_neg e, if_neg e]; exact h.2.1 j hj
  · rw [if_pos e]; exact h2
  · rw [if_neg e]; exact h.2.2.1 j
  · rw [if_pos e]; omega
  · rw [if_neg e]; exact h.2.2.2.1 j
  · omega
  · rw [if_neg e]; exact h.2.2.2.2 j hj
theorem xOk.s (h : xOk n z F) (k : Nat) (hk : 12 ≤ k) (h1 : -2147483648 ≤ z' ∧ z' < 2147483648) (h2 : k = 13 ∨ k = 14 ∨ k = 15 ∨ k = 22 ∨ k = 23 → z' = 0 ∨ z' = 1) : xOk n (va_up z k z') F := by
  refine ⟨fun j hj => ?_, fun j hj => ?_, h.2.2.1, fun j => ?_, fun j hj => ?_⟩ <;> unfold va_up <;> by_cases e : j = k
  · omega
  · rw [if_neg e]; exact h.1 j hj
  · omega
  · rw [if_neg e]; exact h.2.1 j hj
  · rw [if_pos e]; omega
  · rw [if_neg e]; exact h.2.2.2.1 j
  · rw [if_pos e]; exact h2 (e ▸ hj)
  · rw [if_neg e]; exact h.2.2.2.2 j hj
end XFR
/-- how much the object's own rows may still make -/
def xg (n : Nat → Nat) : Nat := psg 80 (n 0) + psg 80 (n 1) + psg 80 (n 2) + psg 80 (n 3) + psg 1600 (n 4) + psg 1600 (n 5) + psg 1600 (n 6) + psg 1600 (n 7) + psg 1600 (n 8) + psg 1600 (n 9) + ((6000 - n 10) / 6000 + (6000 - n 11) / 6000)
def xp (n : Nat → Nat) : Nat := psj 80 (n 0) + psj 80 (n 1) + psj 80 (n 2) + psj 80 (n 3) + psj 1600 (n 4) + psj 1600 (n 5) + psj 1600 (n 6) + psj 1600 (n 7) + psj 1600 (n 8) + psj 1600 (n 9) + ((6000 - n 10) + (6000 - n 11))
theorem xg_le (n : Nat → Nat) : xg n ≤ 92 := by
  unfold xg
  have h0 := psg_le 80 (n 0); have h1 := psg_le 80 (n 1); have h2 := psg_le 80 (n 2); have h3 := psg_le 80 (n 3); have h4 := psg_le 1600 (n 4); have h5 := psg_le 1600 (n 5); have h6 := psg_le 1600 (n 6); have h7 := psg_le 1600 (n 7); have h8 := psg_le 1600 (n 8); have h9 := psg_le 1600 (n 9)
  omega
theorem xp_le (n : Nat → Nat) : xp n ≤ 41760 := by
  unfold xp
  have h0 := psj_le (L := 80) (by omega) (n 0); have h1 := psj_le (L := 80) (by omega) (n 1); have h2 := psj_le (L := 80) (by omega) (n 2); have h3 := psj_le (L := 80) (by omega) (n 3); have h4 := psj_le (L := 1600) (by omega) (n 4); have h5 := psj_le (L := 1600) (by omega) (n 5); have h6 := psj_le (L := 1600) (by omega) (n 6); have h7 := psj_le (L := 1600) (by omega) (n 7); have h8 := psj_le (L := 1600) (by omega) (n 8); have h9 := psj_le (L := 1600) (by omega) (n 9)
  omega
/-- what a step of the landed object comes to: what holds, what may have changed -/
def xR (S T S2 T2 : List Nat) (N : Nat) (z : Nat → Int) (F : Nat → Int → Int) (En : Nat → Nat → Nat) (Ez : Nat → Nat → Int) (EF : Nat → Nat → Int → Int) (n' : Nat → Nat) (z' : Nat → Int) (F' : Nat → Int → Int) (En' : Nat → Nat → Nat) (Ez' : Nat → Nat → Int) (EF' : Nat → Nat → Int → Int) : Prop :=
  xOk n' z' F' ∧ xFr S T z F z' F' ∧ eA N En' Ez' EF' ∧ eFr S2 T2 En Ez EF En' Ez' EF'
theorem xR.tr {S T S2 T2 S' T' S2' T2' : List Nat} {N : Nat} {n1 n2 : Nat → Nat} {z z1 z2 : Nat → Int} {F F1 F2 : Nat → Int → Int} {En En1 En2 : Nat → Nat → Nat} {Ez Ez1 Ez2 : Nat → Nat → Int} {EF EF1 EF2 : Nat → Nat → Int → Int} (h : xR S T S2 T2 N z F En Ez EF n1 z1 F1 En1 Ez1 EF1) (h2 : xR S' T' S2' T2' N z1 F1 En1 Ez1 EF1 n2 z2 F2 En2 Ez2 EF2) (a1 : ∀ k, k ∈ S' → k ∈ S) (a2 : ∀ k, k ∈ T' → k ∈ T) (a3 : ∀ k, k ∈ S2' → k ∈ S2) (a4 : ∀ k, k ∈ T2' → k ∈ T2) : xR S T S2 T2 N z F En Ez EF n2 z2 F2 En2 Ez2 EF2 :=
  ⟨h2.1, h.2.1.tr (h2.2.1.mono a1 a2), h2.2.2.1, h.2.2.2.tr (h2.2.2.2.mono a3 a4)⟩
/-- where the entries lie -/
def xG (N : Nat) (z12 : Int) (G : Nat → Option Nat) (Eo : Nat → Nat → Nat) : Prop := 0 ≤ z12 ∧ z12 ≤ 79 ∧ (N : Int) = z12 + 1 ∧ ∀ e : Nat, (e : Int) < z12 → G e = some (Eo (e + 1) 0)
theorem xw_free {A : Nat → Prop} {ws : va_W} {H0 H : Heap} {locs : List Loc} (hD : va_D A ws) (hS : va_S A H0 H locs) (hA : ∀ q : Nat, H0.size ≤ q → A q) : ∀ q, va_A ws H.size q → A q := by
  intro q h
  rcases h with ⟨k, e, h⟩ | h
  · exact hD.2 k _ h
  · exact hA q (Nat.le_trans hS.1 h)
theorem iz_max {a b : Int} (a1 : -2147483648 ≤ a) (a2 : a < 2147483648) (b1 : -2147483648 ≤ b) (b2 : b < 2147483648) : (if iz a < iz b then iz b else iz a) = iz (max a b) := by
  by_cases h : a < b
  · rw [if_pos ((iz_lt a1 a2 b1 b2).mpr h), Int.max_eq_right (by omega)]
  · rw [if_neg (fun q => h ((iz_lt a1 a2 b1 b2).mp q)), Int.max_eq_left (by omega)]
