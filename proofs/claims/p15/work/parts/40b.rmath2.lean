/-! rows: what the walks want of them -/
section RW
variable {lv ab s t : Int → Int} {Wd : Int → Int → Prop} {cm : Int → Int → Int} {n : Int}
theorem rs_w_step {e l : Int} (h : l < lv e) (h2 : lv e ≤ l + 2) (h1 : lv (s (ab e)) = lv e - 1) : rs_w lv ab s e l = rs_w lv ab s (s (ab e)) l := by
  by_cases c : lv e = l + 1
  · have q := rs_w_own (lv := lv) (ab := ab) (s := s) (s (ab e))
    rw [show lv (s (ab e)) = l by omega] at q
    rw [rs_w_up1 c, q]
  · rw [rs_w_up2 (show lv e = l + 2 by omega), rs_w_up1 (show lv (s (ab e)) = l + 1 by omega)]
theorem rs_w_is {e l : Int} (h : lv e = l) : rs_w lv ab s e l = e := if_pos h
theorem rs_bf_dec {a b le x y : Int} (h0 : 0 ≤ le ∧ le ≤ 2) (he : ∀ l, 0 ≤ l → l < le → rs_w lv ab s a l = rs_w lv ab s b l) (hx : x = rs_w lv ab s a le) (hy : y = rs_w lv ab s b le) (hn : ¬ x = y) : rs_bf lv ab s cm a b ↔ rs_cw cm x y := by
  subst hx hy
  unfold rs_bf
  rcases (show le = 0 ∨ le = 1 ∨ le = 2 by omega) with rfl | rfl | rfl
  · constructor
    · rintro (h | ⟨h, -⟩)
      · exact h
      · exact absurd h hn
    · exact fun h => Or.inl h
  · have e0 := he 0 (by omega) (by omega)
    constructor
    · rintro (h | ⟨-, h | ⟨h, -⟩⟩)
      · exact absurd e0 h.1
      · exact h
      · exact absurd h hn
    · exact fun h => Or.inr ⟨e0, Or.inl h⟩
  · have e0 := he 0 (by omega) (by omega)
    have e1 := he 1 (by omega) (by omega)
    constructor
    · rintro (h | ⟨-, h | ⟨-, h⟩⟩)
      · exact absurd e0 h.1
      · exact absurd e1 h.1
      · exact h
    · exact fun h => Or.inr ⟨e0, Or.inr ⟨e1, h⟩⟩
theorem rs_bf_no {a b : Int} (he : ∀ l, 0 ≤ l → l < 3 → rs_w lv ab s a l = rs_w lv ab s b l) : ¬ rs_bf lv ab s cm a b := by
  unfold rs_bf
  rintro (h | ⟨-, h | ⟨-, h⟩⟩)
  · exact h.1 (he 0 (by omega) (by omega))
  · exact h.1 (he 1 (by omega) (by omega))
  · exact h.1 (he 2 (by omega) (by omega))
theorem rs_cw_iff {x y o : Int} (hn : ¬ x = y) (ho : ¬ x = -1 → ¬ y = -1 → o = cm x y) : rs_cw cm x y ↔ (x = -1 ∨ (¬ y = -1 ∧ (o < 0 ∨ (o = 0 ∧ x < y)))) := by
  unfold rs_cw rs_lt
  by_cases cx : x = -1
  · exact ⟨fun _ => Or.inl cx, fun _ => ⟨hn, Or.inl cx⟩⟩
  · by_cases cy : y = -1
    · constructor
      · rintro ⟨-, h | ⟨h, -⟩⟩
        · exact absurd h cx
        · exact absurd cy h
      · rintro (h | ⟨h, -⟩)
        · exact absurd h cx
        · exact absurd cy h
    · rw [ho cx cy]
      exact ⟨fun h => h.2, fun h => ⟨hn, h⟩⟩
/-- one entry more -/
theorem rs_P_add (hL : rs_lv lv ab n) {e : Int} (hs : rs_P lv ab Wd e s) (he : 0 ≤ e ∧ e < n) (ho : ∀ j, ¬ j = e → t j = s j) (h1 : 0 ≤ t e ∧ t e ≤ e) (h2 : t e = e ∨ (t e < e ∧ s (t e) = t e ∧ rs_al lv ab Wd s e (t e))) (h3 : ∀ k, 0 ≤ k → k < t e → ¬ (s k = k ∧ rs_al lv ab Wd s e k)) : rs_P lv ab Wd (e + 1) t := by
  have hts : ∀ k, 0 ≤ k → k < e → s k = t k := fun k a b => (ho k (by omega)).symm
  have hst : ∀ k, 0 ≤ k → k < e → t k = s k := fun k a b => ho k (by omega)
  intro x a b
  by_cases c : x = e
  · subst c
    refine ⟨h1, ?_, fun k d f q => h3 k d f ⟨by rw [← ho k (by omega)]; exact q.1, rs_al_cg hL hst (by omega) (by omega) q.2⟩⟩
    rcases h2 with h2 | ⟨h4, h5, h6⟩
    · exact Or.inl h2
    · exact Or.inr ⟨by rw [ho (t x) (by omega)]; exact h5, rs_al_cg hL hts (by omega) (by omega) h6⟩
  · obtain ⟨s1, s2, s3⟩ := hs x a (by omega)
    rw [ho x c]
    refine ⟨s1, ?_, fun k d f q => s3 k d f ⟨by rw [← ho k (by omega)]; exact q.1, rs_al_cg hL hst (by omega) (by omega) q.2⟩⟩
    rcases s2 with s2 | ⟨s4, s5⟩
    · exact Or.inl s2
    · exact Or.inr ⟨by rw [ho (s x) (by omega)]; exact s4, rs_al_cg hL hts (by omega) (by omega) s5⟩
theorem rs_C_add (hL : rs_lv lv ab n) {e : Int} (hs : rs_C lv ab Wd e s) (he : 0 ≤ e ∧ e < n) (ho : ∀ j, 0 ≤ j → ¬ j = e → t j = s j) (h1 : 0 ≤ t e ∧ t e ≤ e) (h2 : t e = e ∨ rs_al lv ab Wd s e (t e)) (h3 : ∀ k, 0 ≤ k → k < t e → ¬ rs_al lv ab Wd s e k) : rs_C lv ab Wd (e + 1) t := by
  have hts : ∀ k, 0 ≤ k → k < e → s k = t k := fun k a b => (ho k a (by omega)).symm
  have hst : ∀ k, 0 ≤ k → k < e → t k = s k := fun k a b => ho k a (by omega)
  intro x a b
  by_cases c : x = e
  · subst c
    refine ⟨h1, ?_, fun k d f q => h3 k d f (rs_al_cg hL hst (by omega) (by omega) q)⟩
    rcases h2 with h2 | h6
    · exact Or.inl h2
    · exact Or.inr (rs_al_cg hL hts (by omega) (by omega) h6)
  · obtain ⟨s1, s2, s3⟩ := hs x a (by omega)
    rw [ho x a c]
    refine ⟨s1, ?_, fun k d f q => s3 k d f (rs_al_cg hL hst (by omega) (by omega) q)⟩
    rcases s2 with s2 | s5
    · exact Or.inl s2
    · exact Or.inr (rs_al_cg hL hts (by omega) (by omega) s5)
/-- the rows in their order, with one more -/
theorem rs_rows_add (hc : rs_cm cm) (hL : rs_lv lv ab n) {e m ap : Int} {f g : Int → Int} (he : 0 ≤ e ∧ e < n) (hP : ∀ k, 0 ≤ k → k < e → 0 ≤ s k ∧ s k ≤ k ∧ lv (s k) = lv k) (ho : ∀ j, ¬ j = e → t j = s j) (hf : rs_so (rs_bf lv ab s cm) f 0 m) (hm : ∀ x, rs_me f 0 m x ↔ (0 ≤ x ∧ x < e ∧ s x = x))
    (hi : 0 ≤ ap ∧ ap ≤ m) (h1 : ∀ j, 0 ≤ j → j < ap → g j = f j) (h2 : g ap = e) (h3 : ∀ j, ap < j → j ≤ m → g j = f (j - 1)) (hr : ∀ j, ap ≤ j → j < m → rs_bf lv ab t cm e (f j)) (hl : ap = 0 ∨ ¬ rs_bf lv ab t cm e (f (ap - 1))) (ht : t e = e) :
    rs_so (rs_bf lv ab t cm) g 0 (m + 1) ∧ ∀ x, rs_me g 0 (m + 1) x ↔ (0 ≤ x ∧ x < e + 1 ∧ t x = x) := by
  have hcg : ∀ x y, (0 ≤ x ∧ x ≤ e ∧ x < n) → (0 ≤ y ∧ y ≤ e ∧ y < n) → (rs_bf lv ab s cm x y ↔ rs_bf lv ab t cm x y) := fun x y hx hy => rs_bf_cg hL (fun k a b => (ho k (by omega)).symm) hP hx hy (by omega)
  have hin : ∀ j, 0 ≤ j → j < m → 0 ≤ f j ∧ f j < e := fun j a b => by
    have q := (hm (f j)).mp ⟨j, a, b, rfl⟩
    exact ⟨q.1, q.2.1⟩
  have hf2 : rs_so (rs_bf lv ab t cm) f 0 m := fun i j a b c => by
    have qi := hin i a (by omega)
    have qj := hin j (by omega) c
    exact (hcg _ _ (by omega) (by omega)).mp (hf i j a b c)
  refine ⟨rs_ins hi h1 h2 h3 hf2 (fun j a b => ?_) hr, fun x => ?_⟩
  · rcases hl with hl | hl
    · omega
    · have q0 := hin (ap - 1) (by omega) (by omega)
      have q : rs_bf lv ab t cm (f (ap - 1)) e := (rs_bf_to hc hL (a := f (ap - 1)) (b := e) (by omega) (by omega) (by omega)).resolve_right hl
      by_cases c : j = ap - 1
      · rw [c]; exact q
      · exact rs_bf_tr hc (hf2 j (ap - 1) a (by omega) (by omega)) q
  · rw [rs_ins_me hi h1 h2 h3, hm x]
    by_cases c : x = e
    · subst c
      exact ⟨fun _ => ⟨he.1, by omega, ht⟩, fun _ => Or.inl rfl⟩
    · rw [ho x c]
      constructor
      · rintro (h | ⟨h4, h5, h6⟩)
        · exact absurd h c
        · exact ⟨h4, by omega, h6⟩
      · rintro ⟨h4, h5, h6⟩
        exact Or.inr ⟨h4, by omega, h6⟩
end RW
/-! the reference's own -/
def rs_wd (F : Nat → Int → Int) (a b : Int) : Prop := F 5 a = F 5 b ∧ ∀ i, 0 ≤ i → i < F 5 a → F 4 (20 * a + i) = F 4 (20 * b + i)
theorem rs_wd_W (F : Nat → Int → Int) : rs_W (rs_wd F) := by
  refine ⟨fun a b h => ⟨h.1.symm, fun i h1 h2 => (h.2 i h1 (by rw [h.1]; exact h2)).symm⟩, fun a b c h g => ⟨h.1.trans g.1, fun i h1 h2 => (h.2 i h1 h2).trans (g.2 i h1 (by rw [← h.1]; exact h2))⟩⟩
theorem rs_wd_fr {F G : Nat → Int → Int} (h4 : G 4 = F 4) (h5 : G 5 = F 5) : rs_wd G = rs_wd F := by
  unfold rs_wd
  rw [h4, h5]
theorem kf_oc_fr {I J : Nat → Int} {F G : Nat → Int → Int} (i14 : J 14 = I 14) (i15 : J 15 = I 15) (h4 : G 4 = F 4) (h5 : G 5 = F 5) : kf_oc J G = kf_oc I F := by
  funext a b
  unfold kf_oc kf_ky kf_rks
  rw [kf_sg_fr h4, kf_sg_fr h4, kf_srk_fr h4, kf_srk_fr h4, h5, i14, i15]
theorem kf_lx_0 : ∀ x y : List Int, kf_lx x y = 0 ↔ x = y
  | [], [] => ⟨fun _ => rfl, fun _ => rfl⟩
  | [], _ :: _ => ⟨fun h => absurd (show (-1 : Int) = 0 from h) (by decide), fun h => absurd h (by simp)⟩
  | _ :: _, [] => ⟨fun h => absurd (show (1 : Int) = 0 from h) (by decide), fun h => absurd h (by simp)⟩
  | a :: x, b :: y => by
    show (if a = b then kf_lx x y else if a < b then -1 else 1) = 0 ↔ a :: x = b :: y
    by_cases c : a = b
    · rw [if_pos c, kf_lx_0 x y, c]
      exact ⟨fun h => by rw [h], fun h => (List.cons.inj h).2⟩
    · rw [if_neg c]
      constructor
      · intro h
        split at h <;> omega
      · intro h
        exact absurd (List.cons.inj h).1 c
theorem kf_lx_tr : ∀ x y z : List Int, kf_lx x y ≤ 0 → kf_lx y z ≤ 0 → kf_lx x z ≤ 0 ∧ (kf_lx x z = 0 → kf_lx x y = 0 ∧ kf_lx y z = 0)
  | [], [], z, h1, h2 => ⟨h2, fun h => ⟨rfl, h⟩⟩
  | [], b :: y, [], h1, h2 => absurd (show (1 : Int) ≤ 0 from h2) (by decide)
  | [], b :: y, c :: z, h1, h2 => ⟨by show (-1 : Int) ≤ 0; decide, fun h => absurd (show (-1 : Int) = 0 from h) (by decide)⟩
  | a :: x, [], z, h1, h2 => absurd (show (1 : Int) ≤ 0 from h1) (by decide)
  | a :: x, b :: y, [], h1, h2 => absurd (show (1 : Int) ≤ 0 from h2) (by decide)
  | a :: x, b :: y, c :: z, h1, h2 => by
    have e1 : kf_lx (a :: x) (b :: y) = if a = b then kf_lx x y else if a < b then -1 else 1 := rfl
    have e2 : kf_lx (b :: y) (c :: z) = if b = c then kf_lx y z else if b < c then -1 else 1 := rfl
    have e3 : kf_lx (a :: x) (c :: z) = if a = c then kf_lx x z else if a < c then -1 else 1 := rfl
    have ih := kf_lx_tr x y z
    rw [e1] at h1
    rw [e2] at h2
    rw [e1, e2, e3]
    by_cases c1 : a = b
    · rw [if_pos c1] at h1 ⊢
      by_cases c2 : b = c
      · rw [if_pos c2] at h2 ⊢
        rw [if_pos (c1.trans c2)]
        exact ih h1 h2
      · rw [if_neg c2] at h2 ⊢
        rw [if_neg (by omega)]
        by_cases c3 : b < c
        · rw [if_pos c3, if_pos (by omega)]
          omega
        · rw [if_neg c3] at h2
          omega
    · rw [if_neg c1] at h1 ⊢
      by_cases c4 : a < b
      · rw [if_pos c4] at h1 ⊢
        by_cases c2 : b = c
        · rw [if_neg (by omega), if_pos (by omega)]
          omega
        · rw [if_neg c2] at h2
          by_cases c3 : b < c
          · rw [if_neg (by omega), if_pos (by omega)]
            omega
          · rw [if_neg c3] at h2
            omega
      · rw [if_neg c4] at h1
        omega
/-- how entries stand: an order -/
theorem kf_oc_cm (I : Nat → Int) (F : Nat → Int → Int) : rs_cm (kf_oc I F) := by
  refine ⟨fun a b => ?_, fun a b c h1 h2 => ?_⟩
  · unfold kf_oc
    rw [kf_lx_sym (kf_ky I F a) (kf_ky I F b), kf_lx_sym (kf_rks F a) (kf_rks F b)]
    by_cases c : kf_lx (kf_ky I F a) (kf_ky I F b) = 0
    · rw [if_pos c, if_pos (by omega)]
    · rw [if_neg c, if_neg (by omega)]
  · unfold kf_oc at h1 h2 ⊢
    have q1 := kf_lx_tr (kf_ky I F a) (kf_ky I F b) (kf_ky I F c)
    have q2 := kf_lx_tr (kf_rks F a) (kf_rks F b) (kf_rks F c)
    have z1 := kf_lx_0 (kf_ky I F a) (kf_ky I F b)
    have z2 := kf_lx_0 (kf_ky I F b) (kf_ky I F c)
    by_cases c1 : kf_lx (kf_ky I F a) (kf_ky I F b) = 0
    · rw [if_pos c1] at h1 ⊢
      by_cases c2 : kf_lx (kf_ky I F b) (kf_ky I F c) = 0
      · rw [if_pos c2] at h2 ⊢
        have c3 : kf_lx (kf_ky I F a) (kf_ky I F c) = 0 := by rw [z1.mp c1]; exact c2
        rw [if_pos c3]
        exact q2 h1 h2
      · rw [if_neg c2] at h2 ⊢
        have c3 : ¬ kf_lx (kf_ky I F a) (kf_ky I F c) = 0 := by rw [z1.mp c1]; exact c2
        have q := q1 (by omega) h2
        rw [if_neg c3]
        exact ⟨q.1, fun h => absurd h c3⟩
    · rw [if_neg c1] at h1 ⊢
      have hb : kf_lx (kf_ky I F b) (kf_ky I F c) ≤ 0 := by
        by_cases c2 : kf_lx (kf_ky I F b) (kf_ky I F c) = 0
        · omega
        · rw [if_neg c2] at h2; exact h2
      have q := q1 h1 hb
      have c3 : ¬ kf_lx (kf_ky I F a) (kf_ky I F c) = 0 := fun h => c1 (q.2 h).1
      rw [if_neg c3]
      exact ⟨q.1, fun h => absurd h c3⟩
/-- what the rows of the reference are, once they are known -/
def mKr (I : Nat → Int) (F : Nat → Int → Int) : Prop := rs_P (F 2) (F 3) (rs_wd F) (I 1) (F 17) ∧ rs_so (rs_bf (F 2) (F 3) (F 17) (kf_oc I F)) (F 18) 0 (I 19) ∧ ∀ x, rs_me (F 18) 0 (I 19) x ↔ (0 ≤ x ∧ x < I 1 ∧ F 17 x = x)
def mKs (I : Nat → Int) (F : Nat → Int → Int) : Prop := I 16 = 1 → mKr I F
theorem mKr.fr {I J : Nat → Int} {F G : Nat → Int → Int} (h : mKr I F) (i1 : J 1 = I 1) (i14 : J 14 = I 14) (i15 : J 15 = I 15) (i19 : J 19 = I 19) (f2 : G 2 = F 2) (f3 : G 3 = F 3) (f4 : G 4 = F 4) (f5 : G 5 = F 5) (f17 : G 17 = F 17) (f18 : G 18 = F 18) : mKr J G := by
  unfold mKr at h ⊢
  rw [i1, i19, f2, f3, f17, f18, rs_wd_fr f4 f5, kf_oc_fr i14 i15 f4 f5]
  exact h
