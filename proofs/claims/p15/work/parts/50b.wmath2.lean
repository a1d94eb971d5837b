/-! warnings: a step of the telling, and what the class counts -/
/-- from one state of the telling to another: the list M is told between -/
def wr_X (w : Int) (M : List (Int × Int × Int)) (c k a b c' k' a' b' : Int) : Prop := ∀ (L : List (Int × Int × Int)) (k0 a0 b0 : Int), wr_T w L k0 a0 b0 c k a b → wr_T w (L ++ M) k0 a0 b0 c' k' a' b'
theorem wr_X_nil (w c k a b : Int) : wr_X w [] c k a b c k a b := fun L k0 a0 b0 h => by rw [List.append_nil]; exact h
theorem wr_X_app {w c k a b c1 k1 a1 b1 c2 k2 a2 b2 : Int} {M N : List (Int × Int × Int)} (h : wr_X w M c k a b c1 k1 a1 b1) (g : wr_X w N c1 k1 a1 b1 c2 k2 a2 b2) : wr_X w (M ++ N) c k a b c2 k2 a2 b2 := fun L k0 a0 b0 h9 => by rw [← List.append_assoc]; exact g _ _ _ _ (h _ _ _ _ h9)
theorem wr_X_one {w c k a b c2 k2 a2 b2 x y u : Int} (hc : c2 = c + 1) (hh : (c = w ∧ k2 = x ∧ a2 = y ∧ b2 = u) ∨ (¬ c = w ∧ k2 = k ∧ a2 = a ∧ b2 = b)) : wr_X w [(x, y, u)] c k a b c2 k2 a2 b2 := fun L k0 a0 b0 h9 => by
  rcases hh with ⟨e, rfl, rfl, rfl⟩ | ⟨e, rfl, rfl, rfl⟩
  · rw [hc]; exact wr_T_hit h9 e
  · rw [hc]; exact wr_T_miss _ h9 e
theorem wr_X_tell {w c k a b c1 k1 a1 b1 c2 k2 a2 b2 x y u : Int} {M : List (Int × Int × Int)} (h : wr_X w M c k a b c1 k1 a1 b1) (hc : c2 = c1 + 1) (hh : (c1 = w ∧ k2 = x ∧ a2 = y ∧ b2 = u) ∨ (¬ c1 = w ∧ k2 = k1 ∧ a2 = a1 ∧ b2 = b1)) : wr_X w (M ++ [(x, y, u)]) c k a b c2 k2 a2 b2 := wr_X_app h (wr_X_one hc hh)
theorem wr_X_eq {w c k a b c' k' a' b' : Int} {M N : List (Int × Int × Int)} (h : wr_X w M c k a b c' k' a' b') (e : N = M) : wr_X w N c k a b c' k' a' b' := by rw [e]; exact h
theorem wr_o_p {op : Int → Int} {e : Int} (h : 0 < op e) : wr_o op e = [(1, e, op e)] := if_pos h
theorem wr_o_n {op : Int → Int} {e : Int} (h : ¬ 0 < op e) : wr_o op e = [] := if_neg h
theorem wr_s_p {n : Int} {s pg : Int → Int} {se : Int → Int → Int} {e k : Int} (h0 : 0 ≤ k) (h : wr_np n s pg (s (se e k))) : wr_s n s pg se e (k + 1).toNat 0 = wr_s n s pg se e k.toNat 0 ++ [(2, e, se e k)] := by
  rw [show (k + 1).toNat = k.toNat + 1 by omega, wr_s_app, show (0 : Int) + ((k.toNat : Nat) : Int) = k by omega, wr_b_t h, if_pos rfl]
theorem wr_s_n {n : Int} {s pg : Int → Int} {se : Int → Int → Int} {e k : Int} (h0 : 0 ≤ k) (h : ¬ wr_np n s pg (s (se e k))) : wr_s n s pg se e (k + 1).toNat 0 = wr_s n s pg se e k.toNat 0 := by
  rw [show (k + 1).toNat = k.toNat + 1 by omega, wr_s_app, show (0 : Int) + ((k.toNat : Nat) : Int) = k by omega, wr_b_f h, if_neg (by decide), List.append_nil]
theorem wr_e_p {n : Int} {lv ab s pg sn op : Int → Int} {se : Int → Int → Int} {e k : Int} (hk : sn e = k) (h : wr_br n lv ab s pg sn e) : wr_e n lv ab s pg sn op se e = (wr_o op e ++ wr_s n s pg se e k.toNat 0) ++ [(3, e, 0)] := by
  unfold wr_e
  rw [hk, wr_b_t h, if_pos rfl, List.append_assoc]
theorem wr_e_n {n : Int} {lv ab s pg sn op : Int → Int} {se : Int → Int → Int} {e k : Int} (hk : sn e = k) (h : ¬ wr_br n lv ab s pg sn e) : wr_e n lv ab s pg sn op se e = wr_o op e ++ wr_s n s pg se e k.toNat 0 := by
  unfold wr_e
  rw [hk, wr_b_f h, if_neg (by decide), List.append_nil]
theorem wr_a_s {n : Int} {lv ab s pg sn op : Int → Int} {se : Int → Int → Int} {k : Int} (h0 : 0 ≤ k) : wr_a n lv ab s pg sn op se (k + 1).toNat 0 = wr_a n lv ab s pg sn op se k.toNat 0 ++ wr_e n lv ab s pg sn op se k := by
  rw [show (k + 1).toNat = k.toNat + 1 by omega, wr_a_app, show (0 : Int) + ((k.toNat : Nat) : Int) = k by omega]
theorem wr_C_cg {k top x r : Int} {P Q : Int → Int → Prop} (h : wr_C k top P x r) (hPQ : ∀ e, 0 ≤ e → e < k → (P e r ↔ Q e r)) : wr_C k top Q x r :=
  ⟨h.1, fun h9 e a b q => h.2.mp h9 e a b ((hPQ e a b).mpr q), fun h9 => h.2.mpr (fun e a b q => h9 e a b ((hPQ e a b).mp q))⟩
/-! what the class counted, of the row r -/
def wr_N (n : Int) (Ez : Nat → Nat → Int) (r : Int) : Prop := wr_C n (20 * n) (fun e r => rs_sE Ez e = r ∧ ¬ Ez ((e + 1).toNat) 4 = 0) (Ez ((r + 1).toNat) 11) r ∧ wr_C n (5 * n) (fun e r => rs_sE Ez e = r ∧ ¬ Ez ((e + 1).toNat) 3 = 0) (Ez ((r + 1).toNat) 12) r ∧ wr_C n (1 * n) (fun e r => (0 ≤ Ez ((e + 1).toNat) 8 ∧ Ez ((e + 1).toNat) 8 < n) ∧ rs_sE Ez (Ez ((e + 1).toNat) 8) = r) (Ez ((r + 1).toNat) 13) r
/-- pages, sees and what is open, as the entries have them -/
def wr_H (n : Int) (Ez : Nat → Nat → Int) (EF : Nat → Nat → Int → Int) (pg sn op : Int → Int) (se : Int → Int → Int) : Prop :=
  ∀ e, 0 ≤ e → e < n → (Ez ((e + 1).toNat) 4 = pg e ∧ Ez ((e + 1).toNat) 3 = sn e) ∧ ((Ez ((e + 1).toNat) 9 < 0 ∧ op e = 0) ∨ (0 ≤ Ez ((e + 1).toNat) 9 ∧ Ez ((e + 1).toNat) 9 < Ez ((e + 1).toNat) 4 ∧ (0 < op e ∧ op e ≤ 99999) ∧ EF ((e + 1).toNat) 4 (Ez ((e + 1).toNat) 9) = 100000 + op e)) ∧ ∀ k, 0 ≤ k → k < sn e → EF ((e + 1).toNat) 3 k = se e k ∧ 0 ≤ se e k ∧ se e k < n
theorem wr_np_N {n : Int} {Ez : Nat → Nat → Int} {EF : Nat → Nat → Int → Int} {pg sn op : Int → Int} {se : Int → Int → Int} {r : Int} (hH : wr_H n Ez EF pg sn op se) (h : wr_N n Ez r) : Ez ((r + 1).toNat) 11 = 0 ↔ wr_np n (rs_sE Ez) pg r := by
  have q := h.1.2
  refine ⟨fun h9 e a b c => ?_, fun h9 => q.mpr (fun e a b c => ?_)⟩
  · have q1 := q.mp h9 e a b
    have q2 := (hH e a b).1.1
    by_cases d : pg e = 0
    · exact d
    · exact absurd ⟨c, by rw [q2]; exact d⟩ q1
  · have q2 := (hH e a b).1.1
    have q3 := h9 e a b c.1
    exact c.2 (by rw [q2]; exact q3)
theorem wr_br_N {n : Int} {Ez : Nat → Nat → Int} {EF : Nat → Nat → Int → Int} {lv ab pg sn op : Int → Int} {se : Int → Int → Int} {r : Int} (hH : wr_H n Ez EF pg sn op se) (hL : rs_lv lv ab n) (h8 : ∀ e, 0 ≤ e → e < n → Ez ((e + 1).toNat) 8 = ab e) (h : wr_N n Ez r) (hr : rs_sE Ez r = r) : (Ez ((r + 1).toNat) 11 = 0 ∧ Ez ((r + 1).toNat) 12 = 0 ∧ Ez ((r + 1).toNat) 13 = 0) ↔ wr_br n lv ab (rs_sE Ez) pg sn r := by
  have q1 := wr_np_N hH h
  have q2 := h.2.1.2
  have q3 := h.2.2.2
  refine ⟨fun ⟨a1, a2, a3⟩ => ⟨hr, q1.mp a1, fun k a b c => ?_, fun k a b c d => ?_⟩, fun ⟨b0, b1, b2, b3⟩ => ⟨q1.mpr b1, q2.mpr (fun e a b c => ?_), q3.mpr (fun e a b c => ?_)⟩⟩
  · have p1 := q2.mp a2 k a b
    have p2 := (hH k a b).1.2
    by_cases d : sn k = 0
    · exact d
    · exact absurd ⟨c, by rw [p2]; exact d⟩ p1
  · have p1 := q3.mp a3 k a b
    have p2 := h8 k a b
    have p3 := hL k a b
    exact p1 ⟨by rw [p2]; omega, by rw [p2]; exact d⟩
  · have p2 := (hH e a b).1.2
    exact c.2 (by rw [p2]; exact b2 e a b c.1)
  · have p2 := h8 e a b
    have p3 := hL e a b
    have c1 := c.1
    have c2 := c.2
    rw [p2] at c1 c2
    exact b3 e a b (by omega) c2
/-- the first of another's kind in place of s -/
theorem wr_np_s {n : Int} {s t pg : Int → Int} {r : Int} (hs : ∀ e, 0 ≤ e → e < n → s e = t e) : wr_np n s pg r ↔ wr_np n t pg r := wr_np_cg hs (fun _ _ _ => rfl)
theorem wr_b_cg {P Q : Prop} (h : P ↔ Q) : wr_b P = wr_b Q := by rw [propext h]
theorem wr_s_s {n : Int} {s t pg : Int → Int} {se : Int → Int → Int} {e : Int} (hs : ∀ e, 0 ≤ e → e < n → s e = t e) : ∀ (m : Nat) (k : Int), (∀ j, k ≤ j → j < k + m → 0 ≤ se e j ∧ se e j < n) → wr_s n s pg se e m k = wr_s n t pg se e m k
  | 0, _, _ => rfl
  | m + 1, k, h => by
    have h1 := h k (by omega) (by omega)
    show (if wr_b (wr_np n s pg (s (se e k))) then [(2, e, se e k)] else []) ++ wr_s n s pg se e m (k + 1) = (if wr_b (wr_np n t pg (t (se e k))) then [(2, e, se e k)] else []) ++ wr_s n t pg se e m (k + 1)
    rw [wr_s_s hs m (k + 1) (fun j a b => h j (by omega) (by omega)), hs _ h1.1 h1.2, wr_b_cg (wr_np_s (r := t (se e k)) hs)]
theorem wr_br_s {n : Int} {lv ab s t pg sn : Int → Int} {e : Int} (hs : ∀ e, 0 ≤ e → e < n → s e = t e) (hL : rs_lv lv ab n) (h0 : 0 ≤ e) (h1 : e < n) : wr_br n lv ab s pg sn e ↔ wr_br n lv ab t pg sn e := by
  have g : ∀ {s t : Int → Int}, (∀ e, 0 ≤ e → e < n → s e = t e) → wr_br n lv ab s pg sn e → wr_br n lv ab t pg sn e := fun {s t} hs h => by
    obtain ⟨b0, b1, b2, b3⟩ := h
    refine ⟨by rw [← hs e h0 h1]; exact b0, (wr_np_s hs).mp b1, fun k a b c => b2 k a b (by rw [hs k a b]; exact c), fun k a b c d => b3 k a b c ?_⟩
    have p3 := hL k a b
    rw [hs (ab k) (by omega) (by omega)]
    exact d
  exact ⟨g hs, g (fun e a b => (hs e a b).symm)⟩
theorem wr_a_s2 {n : Int} {lv ab s t pg sn op : Int → Int} {se : Int → Int → Int} (hs : ∀ e, 0 ≤ e → e < n → s e = t e) (hL : rs_lv lv ab n) (hse : ∀ e, 0 ≤ e → e < n → 0 ≤ sn e ∧ ∀ k, 0 ≤ k → k < sn e → 0 ≤ se e k ∧ se e k < n) : ∀ (m : Nat) (e : Int), 0 ≤ e → e + m ≤ n → wr_a n lv ab s pg sn op se m e = wr_a n lv ab t pg sn op se m e
  | 0, _, _, _ => rfl
  | m + 1, e, h0, h1 => by
    have q := hse e h0 (by omega)
    show wr_e n lv ab s pg sn op se e ++ wr_a n lv ab s pg sn op se m (e + 1) = wr_e n lv ab t pg sn op se e ++ wr_a n lv ab t pg sn op se m (e + 1)
    rw [wr_a_s2 hs hL hse m (e + 1) (by omega) (by omega)]
    unfold wr_e
    rw [wr_s_s hs _ 0 (fun j a b => q.2 j a (by omega)), wr_b_cg (wr_br_s hs hL h0 (by omega))]
