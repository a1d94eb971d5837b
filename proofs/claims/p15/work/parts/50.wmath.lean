/-! warnings: what is told of each entry, in order -/
noncomputable def wr_b (P : Prop) : Bool := @decide P (Classical.propDecidable P)
theorem wr_b_t {P : Prop} (h : P) : wr_b P = true := @decide_eq_true P (Classical.propDecidable P) h
theorem wr_b_f {P : Prop} (h : ¬ P) : wr_b P = false := @decide_eq_false P (Classical.propDecidable P) h
/-- a row has no page -/
def wr_np (n : Int) (s pg : Int → Int) (r : Int) : Prop := ∀ e, 0 ≤ e → e < n → s e = r → pg e = 0
/-- a row that has nothing at all -/
def wr_br (n : Int) (lv ab s pg sn : Int → Int) (e : Int) : Prop := s e = e ∧ wr_np n s pg e ∧ (∀ k, 0 ≤ k → k < n → s k = e → sn k = 0) ∧ ∀ k, 0 ≤ k → k < n → ¬ lv k = 0 → ¬ s (ab k) = e
/-- of one entry, those to see from k on -/
noncomputable def wr_s (n : Int) (s pg : Int → Int) (se : Int → Int → Int) (e : Int) : Nat → Int → List (Int × Int × Int)
  | 0, _ => []
  | m + 1, k => (if wr_b (wr_np n s pg (s (se e k))) then [(2, e, se e k)] else []) ++ wr_s n s pg se e m (k + 1)
noncomputable def wr_o (op : Int → Int) (e : Int) : List (Int × Int × Int) := if 0 < op e then [(1, e, op e)] else []
noncomputable def wr_e (n : Int) (lv ab s pg sn op : Int → Int) (se : Int → Int → Int) (e : Int) : List (Int × Int × Int) := wr_o op e ++ (wr_s n s pg se e (sn e).toNat 0 ++ (if wr_b (wr_br n lv ab s pg sn e) then [(3, e, 0)] else []))
noncomputable def wr_a (n : Int) (lv ab s pg sn op : Int → Int) (se : Int → Int → Int) : Nat → Int → List (Int × Int × Int)
  | 0, _ => []
  | m + 1, e => wr_e n lv ab s pg sn op se e ++ wr_a n lv ab s pg sn op se m (e + 1)
theorem wr_s_app (n : Int) (s pg : Int → Int) (se : Int → Int → Int) (e : Int) : ∀ (m : Nat) (k : Int), wr_s n s pg se e (m + 1) k = wr_s n s pg se e m k ++ (if wr_b (wr_np n s pg (s (se e (k + m)))) then [(2, e, se e (k + m))] else [])
  | 0, k => by
    show (if wr_b (wr_np n s pg (s (se e k))) then [(2, e, se e k)] else []) ++ [] = [] ++ _
    rw [List.append_nil, List.nil_append, show k + ((0 : Nat) : Int) = k by omega]
  | m + 1, k => by
    show (if wr_b (wr_np n s pg (s (se e k))) then [(2, e, se e k)] else []) ++ wr_s n s pg se e (m + 1) (k + 1) = ((if wr_b (wr_np n s pg (s (se e k))) then [(2, e, se e k)] else []) ++ wr_s n s pg se e m (k + 1)) ++ _
    rw [wr_s_app n s pg se e m (k + 1), List.append_assoc, show k + 1 + (m : Int) = k + ((m + 1 : Nat) : Int) by omega]
theorem wr_a_app (n : Int) (lv ab s pg sn op : Int → Int) (se : Int → Int → Int) : ∀ (m : Nat) (e : Int), wr_a n lv ab s pg sn op se (m + 1) e = wr_a n lv ab s pg sn op se m e ++ wr_e n lv ab s pg sn op se (e + m)
  | 0, e => by
    show wr_e n lv ab s pg sn op se e ++ [] = [] ++ _
    rw [List.append_nil, List.nil_append, show e + ((0 : Nat) : Int) = e by omega]
  | m + 1, e => by
    show wr_e n lv ab s pg sn op se e ++ wr_a n lv ab s pg sn op se (m + 1) (e + 1) = (wr_e n lv ab s pg sn op se e ++ wr_a n lv ab s pg sn op se m (e + 1)) ++ _
    rw [wr_a_app n lv ab s pg sn op se m (e + 1), List.append_assoc, show e + 1 + (m : Int) = e + ((m + 1 : Nat) : Int) by omega]
/-- what was told so far: how many, and the one that is looked for (or what stood there before) -/
def wr_T (w : Int) (L : List (Int × Int × Int)) (k0 a0 b0 c k a b : Int) : Prop := c = L.length ∧ ((0 ≤ w ∧ w < L.length ∧ L[w.toNat]? = some (k, a, b)) ∨ (¬ (0 ≤ w ∧ w < L.length) ∧ k = k0 ∧ a = a0 ∧ b = b0))
theorem wr_T_nil (w k0 a0 b0 : Int) : wr_T w [] k0 a0 b0 0 k0 a0 b0 := ⟨rfl, Or.inr ⟨by show ¬ (0 ≤ w ∧ w < 0); omega, rfl, rfl, rfl⟩⟩
/-- one more is told -/
theorem wr_T_hit {w k0 a0 b0 c k a b k1 a1 b1 : Int} {L : List (Int × Int × Int)} (h : wr_T w L k0 a0 b0 c k a b) (hw : c = w) : wr_T w (L ++ [(k1, a1, b1)]) k0 a0 b0 (c + 1) k1 a1 b1 := by
  obtain ⟨h1, -⟩ := h
  refine ⟨by rw [List.length_append]; show c + 1 = ((L.length + 1 : Nat) : Int); omega, Or.inl ⟨by omega, by rw [List.length_append]; show w < ((L.length + 1 : Nat) : Int); omega, ?_⟩⟩
  rw [show w.toNat = L.length by omega, List.getElem?_append_right (Nat.le_refl _), Nat.sub_self]
  rfl
theorem wr_T_miss {w k0 a0 b0 c k a b : Int} {L : List (Int × Int × Int)} (x : Int × Int × Int) (h : wr_T w L k0 a0 b0 c k a b) (hw : ¬ c = w) : wr_T w (L ++ [x]) k0 a0 b0 (c + 1) k a b := by
  obtain ⟨h1, h2⟩ := h
  refine ⟨by rw [List.length_append]; show c + 1 = ((L.length + 1 : Nat) : Int); omega, ?_⟩
  rcases h2 with ⟨a1, a2, a3⟩ | ⟨a1, a2⟩
  · refine Or.inl ⟨a1, by rw [List.length_append]; show w < ((L.length + 1 : Nat) : Int); omega, ?_⟩
    rw [List.getElem?_append_left (by omega)]
    exact a3
  · exact Or.inr ⟨by rw [List.length_append]; show ¬ (0 ≤ w ∧ w < ((L.length + 1 : Nat) : Int)); omega, a2⟩
/-- kinds are 1, 2, 3 -/
def wr_K (L : List (Int × Int × Int)) : Prop := ∀ x, x ∈ L → 1 ≤ x.1 ∧ x.1 ≤ 3
theorem wr_K_app {L M : List (Int × Int × Int)} (h : wr_K L) (g : wr_K M) : wr_K (L ++ M) := fun x hx => by
  rcases List.mem_append.mp hx with q | q
  · exact h x q
  · exact g x q
theorem wr_K_1 {k a b : Int} (h : 1 ≤ k ∧ k ≤ 3) : wr_K [(k, a, b)] := fun x hx => by rw [List.mem_singleton.mp hx]; exact h
theorem wr_K_0 : wr_K [] := fun x hx => absurd hx List.not_mem_nil
theorem wr_s_K (n : Int) (s pg : Int → Int) (se : Int → Int → Int) (e : Int) : ∀ (m : Nat) (k : Int), wr_K (wr_s n s pg se e m k)
  | 0, _ => wr_K_0
  | m + 1, k => by
    refine wr_K_app ?_ (wr_s_K n s pg se e m (k + 1))
    split
    · exact wr_K_1 (by omega)
    · exact wr_K_0
theorem wr_e_K (n : Int) (lv ab s pg sn op : Int → Int) (se : Int → Int → Int) (e : Int) : wr_K (wr_e n lv ab s pg sn op se e) := by
  refine wr_K_app ?_ (wr_K_app (wr_s_K n s pg se e _ 0) ?_)
  · unfold wr_o
    split
    · exact wr_K_1 (by omega)
    · exact wr_K_0
  · split
    · exact wr_K_1 (by omega)
    · exact wr_K_0
theorem wr_a_K (n : Int) (lv ab s pg sn op : Int → Int) (se : Int → Int → Int) : ∀ (m : Nat) (e : Int), wr_K (wr_a n lv ab s pg sn op se m e)
  | 0, _ => wr_K_0
  | m + 1, e => wr_K_app (wr_e_K n lv ab s pg sn op se e) (wr_a_K n lv ab s pg sn op se m (e + 1))
/-- found: its kind is none of the start's -/
theorem wr_T_kind {w c k a b : Int} {L : List (Int × Int × Int)} (h : wr_T w L 0 0 0 c k a b) (hK : wr_K L) : (0 ≤ w ∧ w < c) ↔ ¬ k = 0 := by
  obtain ⟨h1, h2⟩ := h
  rcases h2 with ⟨a1, a2, a3⟩ | ⟨a1, a2, a3, a4⟩
  · have q := hK (k, a, b) (List.mem_of_getElem? a3)
    have q' : 1 ≤ k ∧ k ≤ 3 := q
    exact ⟨fun _ => by omega, fun _ => by omega⟩
  · exact ⟨fun h => absurd h (by omega), fun h => absurd a2 h⟩
/-- both have found the same -/
theorem wr_T_eq {w c k a b c' k' a' b' x y u : Int} {L : List (Int × Int × Int)} (h : wr_T w L 0 0 0 c k a b) (g : wr_T w L x y u c' k' a' b') : c = c' ∧ (0 ≤ w → w < c → k = k' ∧ a = a' ∧ b = b') := by
  obtain ⟨h1, h2⟩ := h
  obtain ⟨g1, g2⟩ := g
  refine ⟨by omega, fun w0 w1 => ?_⟩
  rcases h2 with ⟨a1, a2, a3⟩ | ⟨a1, -⟩
  · rcases g2 with ⟨b1, b2, b3⟩ | ⟨b1, -⟩
    · rw [a3] at b3
      have q := Option.some.inj b3
      have q1 := congrArg Prod.fst q
      have q2 := congrArg (fun z => z.2.1) q
      have q3 := congrArg (fun z => z.2.2) q
      exact ⟨q1, q2, q3⟩
    · omega
  · omega
/-! equal by what they look at -/
theorem wr_np_cg {n : Int} {s t pg qg : Int → Int} {r : Int} (hs : ∀ e, 0 ≤ e → e < n → s e = t e) (hp : ∀ e, 0 ≤ e → e < n → pg e = qg e) : wr_np n s pg r ↔ wr_np n t qg r :=
  ⟨fun h e a b c => by rw [← hp e a b]; exact h e a b (by rw [hs e a b]; exact c), fun h e a b c => by rw [hp e a b]; exact h e a b (by rw [← hs e a b]; exact c)⟩
theorem wr_T_at {w k0 a0 b0 c k a b : Int} {L : List (Int × Int × Int)} (h : wr_T w L k0 a0 b0 c k a b) (hw : c = w) : k = k0 ∧ a = a0 ∧ b = b0 := by
  obtain ⟨h1, h2⟩ := h
  rcases h2 with ⟨a1, a2, a3⟩ | ⟨a1, a2⟩
  · omega
  · exact a2
/-! the reference's own -/
def wr_pg (F : Nat → Int → Int) : Int → Int := fun e => F 10 e + (if 0 < F 11 e then 1 else 0)
def wr_se (F : Nat → Int → Int) : Int → Int → Int := fun e k => F 12 (5 * e + k)
noncomputable def wr_R (I : Nat → Int) (F : Nat → Int → Int) (m : Nat) : List (Int × Int × Int) := wr_a (I 1) (F 2) (F 3) (F 17) (wr_pg F) (F 13) (F 11) (wr_se F) m 0
/-! the class's own -/
theorem wr_up2 (E : Nat → Nat → Int) (J k : Nat) (v : Int) (j i : Nat) : va_up E J (va_up (E J) k v) j i = if j = J ∧ i = k then v else E j i := by
  by_cases c : j = J
  · subst c
    rw [va_up_self]
    by_cases d : i = k
    · subst d
      rw [va_up_self, if_pos ⟨rfl, rfl⟩]
    · rw [va_up_ne _ _ d, if_neg (fun h => d h.2)]
  · rw [va_up_ne _ _ c, if_neg (fun h => c h.1)]
/-- counted so far: nothing, exactly if none of those before k has any -/
def wr_C (k top : Int) (P : Int → Int → Prop) (x r : Int) : Prop := (0 ≤ x ∧ x ≤ top) ∧ (x = 0 ↔ ∀ e, 0 ≤ e → e < k → ¬ P e r)
theorem wr_C_0 (P : Int → Int → Prop) {top : Int} (h : 0 ≤ top) (r : Int) : wr_C 0 top P 0 r := ⟨⟨Int.le_refl 0, h⟩, fun _ e a b => absurd b (by omega), fun _ => rfl⟩
theorem wr_C_add {k top d x v r : Int} {P : Int → Int → Prop} (h : wr_C k top P x r) (h0 : 0 ≤ k) (hv : 0 ≤ v ∧ v ≤ d) (hP : P k r ↔ 0 < v) : wr_C (k + 1) (top + d) P (x + v) r := by
  obtain ⟨⟨a, b⟩, c⟩ := h
  refine ⟨by omega, ⟨fun h9 e h1 h2 => ?_, fun h9 => ?_⟩⟩
  · by_cases d9 : e = k
    · rw [d9, hP]; omega
    · exact c.mp (by omega) e h1 (by omega)
  · have q1 := c.mpr (fun e h1 h2 => h9 e h1 (by omega))
    have q2 := h9 k h0 (by omega)
    rw [hP] at q2
    omega
theorem wr_C_no {k top d x r : Int} {P : Int → Int → Prop} (h : wr_C k top P x r) (hd : 0 ≤ d) (hP : ¬ P k r) : wr_C (k + 1) (top + d) P x r := by
  obtain ⟨⟨a, b⟩, c⟩ := h
  refine ⟨by omega, ⟨fun h9 e h1 h2 => ?_, fun h9 => c.mpr (fun e h1 h2 => h9 e h1 (by omega))⟩⟩
  by_cases d9 : e = k
  · rw [d9]; exact hP
  · exact c.mp h9 e h1 (by omega)
