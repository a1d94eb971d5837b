/-! locators lie where pages lie -/
theorem lo_go_all {A : Int → Prop} : ∀ (l : List lo_T) (c : lo_T), A c.1 → A c.2.1 → (∀ x, x ∈ l → A x.1 ∧ A x.2.1) → ∀ d, d ∈ lo_go c l → A d.1 ∧ A d.2.1
  | [], c, h1, h2, _, d, hd => by
    have e : d = c := List.mem_singleton.mp hd
    rw [e]
    exact ⟨h1, h2⟩
  | x :: l, c, h1, h2, h, d, hd => by
    have hx := h x List.mem_cons_self
    by_cases e : x.1 ≤ c.2.1 + 1
    · rw [lo_go_in e] at hd
      refine lo_go_all l (lo_jn c x) h1 ?_ (fun y hy => h y (List.mem_cons_of_mem _ hy)) d hd
      show A (lo_mx c.2.1 x.2.1)
      unfold lo_mx
      split
      · exact hx.2
      · exact h2
    · rw [lo_go_out e] at hd
      rcases List.mem_cons.mp hd with q | q
      · rw [q]; exact ⟨h1, h2⟩
      · exact lo_go_all l x hx.1 hx.2 (fun y hy => h y (List.mem_cons_of_mem _ hy)) d q
theorem lo_J_all {A : Int → Prop} {l : List lo_T} (h : ∀ x, x ∈ l → A x.1 ∧ A x.2.1) : ∀ d, d ∈ lo_J l → A d.1 ∧ A d.2.1 := by
  cases l with
  | nil => exact fun d hd => absurd hd List.not_mem_nil
  | cons x l => exact lo_go_all l x (h x List.mem_cons_self).1 (h x List.mem_cons_self).2 (fun y hy => h y (List.mem_cons_of_mem _ hy))
theorem lo_W_all {A : Int → Prop} {c : lo_T} (h1 : A c.1) (h2 : A c.2.1) : ∀ y, y ∈ lo_W c → A y.1 ∧ A y.2 := by
  intro y hy
  unfold lo_W at hy
  split at hy
  · rw [List.mem_singleton.mp hy]; exact ⟨h1, h2⟩
  · split at hy
    · rw [List.mem_singleton.mp hy]; exact ⟨h1, h1⟩
    · rcases List.mem_cons.mp hy with q | q
      · rw [q]; exact ⟨h1, h1⟩
      · rw [List.mem_singleton.mp q]; exact ⟨h2, h2⟩
theorem lo_L_all {A : Int → Prop} : ∀ {l : List lo_T}, (∀ d, d ∈ l → A d.1 ∧ A d.2.1) → ∀ y, y ∈ lo_L l → A y.1 ∧ A y.2
  | [], _, y, hy => absurd hy List.not_mem_nil
  | c :: l, h, y, hy => by
    rcases List.mem_append.mp hy with q | q
    · exact lo_W_all (h c List.mem_cons_self).1 (h c List.mem_cons_self).2 y q
    · exact lo_L_all (fun d hd => h d (List.mem_cons_of_mem _ hd)) y q
theorem lo_v_bd {x : lo_T} (h : lo_v x) : (0 ≤ x.1 ∧ x.1 < 300000) ∧ (0 ≤ x.2.1 ∧ x.2.1 < 300000) := by
  obtain ⟨-, h2, h3, h4, h5, h6, -⟩ := h
  omega
/-! the class's own: which row's locators stand there -/
def lo_K (z : Nat → Int) (F : Nat → Int → Int) (Ez : Nat → Nat → Int) (EF : Nat → Nat → Int → Int) : Prop := z 16 = -1 ∨ (z 15 = 1 ∧ (z 7 = z 8 ∧ z 8 = z 9) ∧ lo_Q (z 12) (rs_sE Ez) Ez EF (z 16) (lo_pl (F 7) (F 8) (z 7).toNat 0))
section LK
variable {lv ab : Int → Int} {Wd : Int → Int → Prop} {cm : Int → Int → Int} {z z' : Nat → Int} {F F' : Nat → Int → Int} {Ez Ez' : Nat → Nat → Int} {EF EF' : Nat → Nat → Int → Int}
theorem lo_P_fr (h4 : ∀ j, Ez' j 4 = Ez j 4) (hf : ∀ j, EF' j 4 = EF j 4 ∧ EF' j 5 = EF j 5 ∧ EF' j 6 = EF j 6) : lo_P Ez' EF' = lo_P Ez EF := funext (fun e => by unfold lo_P; rw [h4, (hf _).1, (hf _).2.1, (hf _).2.2])
theorem lo_Q_cg {n r : Int} {s t : Int → Int} {PL : List (Int × Int)} (h : lo_Q n s Ez EF r PL) (hs : ∀ e, 0 ≤ e → e < n → s e = t e) (hp : lo_P Ez' EF' = lo_P Ez EF) : lo_Q n t Ez' EF' r PL := by
  obtain ⟨M, a, b⟩ := h
  refine ⟨M, lo_S_cg a ?_, b⟩
  rw [hp]
  exact lo_row_perm _ (fun e c d => ⟨hs e c (by omega), List.Perm.refl _⟩)
theorem lo_K.fr (h : lo_K z F Ez EF) (h16 : z' 16 = z 16) (h15 : z' 15 = z 15) (h12 : z' 12 = z 12) (h7 : z' 7 = z 7) (h8 : z' 8 = z 8) (h9 : z' 9 = z 9) (f7 : F' 7 = F 7) (f8 : F' 8 = F 8) (he : ∀ j, Ez' j 10 = Ez j 10) (h4 : ∀ j, Ez' j 4 = Ez j 4) (hf : ∀ j, EF' j 4 = EF j 4 ∧ EF' j 5 = EF j 5 ∧ EF' j 6 = EF j 6) : lo_K z' F' Ez' EF' := by
  unfold lo_K
  rw [h16, h15, h12, h7, h8, h9, f7, f8]
  rcases h with q | ⟨q1, q2, q3⟩
  · exact Or.inl q
  · exact Or.inr ⟨q1, q2, lo_Q_cg q3 (fun e _ _ => (he _).symm) (lo_P_fr h4 hf)⟩
theorem lo_K.find (h : lo_K z F Ez EF) (hk : rs_RK z F Ez lv ab Wd cm) (hL : rs_lv lv ab (z 12)) (hW : rs_W Wd) (hr : rs_R z' F' Ez' lv ab Wd cm) (h15 : z' 15 = 1) (h16 : z' 16 = z 16) (h12 : z' 12 = z 12) (h7 : z' 7 = z 7) (h8 : z' 8 = z 8) (h9 : z' 9 = z 9) (f7 : F' 7 = F 7) (f8 : F' 8 = F 8) (h4 : ∀ j, Ez' j 4 = Ez j 4) (hf : ∀ j, EF' j 4 = EF j 4 ∧ EF' j 5 = EF j 5 ∧ EF' j 6 = EF j 6) : lo_K z' F' Ez' EF' := by
  unfold lo_K
  rw [h16, h15, h12, h7, h8, h9, f7, f8]
  rcases h with q | ⟨q1, q2, q3⟩
  · exact Or.inl q
  · have c1 := (hk q1).1
    have c2 := hr.1
    rw [h12] at c2
    exact Or.inr ⟨rfl, q2, lo_Q_cg q3 (fun e a b => rs_eq hL hW (rs_C_P hW c1) c2 a b) (lo_P_fr h4 hf)⟩
theorem lo_H.fr {n : Int} {En En' : Nat → Nat → Nat} {S T : List Nat} (h : lo_H n Ez EF) (he : eFr S T En Ez EF En' Ez' EF') (h1 : 4 ∉ S ∧ 5 ∉ S ∧ 6 ∉ S) (h2 : 4 ∉ T ∧ 5 ∉ T ∧ 6 ∉ T) : lo_H n Ez' EF' := by
  intro e a b
  obtain ⟨q1, q2⟩ := h e a b
  rw [he.1 _ 4 h1.1, he.1 _ 5 h1.2.1, he.1 _ 6 h1.2.2, lo_P_fr (fun j => he.1 j 4 h1.1) (fun j => ⟨(he.2 j 4 h2.1).2, (he.2 j 5 h2.2.1).2, (he.2 j 6 h2.2.2).2⟩)]
  exact ⟨q1, q2⟩
theorem lo_Q_bd {n r : Int} {s : Int → Int} {PL : List (Int × Int)} (h : lo_Q n s Ez EF r PL) (hH : lo_H n Ez EF) : ∀ y, y ∈ PL → (0 ≤ y.1 ∧ y.1 < 300000) ∧ (0 ≤ y.2 ∧ y.2 < 300000) := by
  obtain ⟨M, a, b⟩ := h
  rw [b]
  refine lo_L_all (A := fun x => 0 ≤ x ∧ x < 300000) (lo_J_all (A := fun x => 0 ≤ x ∧ x < 300000) (fun x hx => lo_v_bd ?_))
  exact lo_row_all (V := lo_v) _ (fun e c d => (hH e c (by omega)).2) x (a.2.mem_iff.mp hx)
theorem lo_pl_bd {f g : Int → Int} {n k : Int} {A : Int × Int → Prop} (h : ∀ y, y ∈ lo_pl f g n.toNat 0 → A y) (h0 : 0 ≤ k) (h1 : k < n) : A (f k, g k) := by
  have r := lo_pl_at f g n.toNat 0 k.toNat (by omega)
  rw [show (0 : Int) + ((k.toNat : Nat) : Int) = k by omega] at r
  exact h _ (List.mem_of_getElem? r)
end LK
