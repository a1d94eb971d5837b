/-! rows of the landed class: what its walks want -/
def rs_fo (n : Int) (Ez : Nat → Nat → Int) (x : Int) : Int := if 0 ≤ x ∧ x < n then Ez ((x + 1).toNat) 10 else -1
def rs_sE (Ez : Nat → Nat → Int) : Int → Int := fun x => Ez ((x + 1).toNat) 10
def rs_K (k : Nat) (Ez : Nat → Nat → Int) (EF : Nat → Nat → Int → Int) (a b : Nat) : Int := kf_lx (kf_ls (EF a k) 0 (Ez a k).toNat) (kf_ls (EF b k) 0 (Ez b k).toNat)
/-- levels, what is above, words and their order, as the entries have them -/
def rs_H (n : Int) (Ez : Nat → Nat → Int) (EF : Nat → Nat → Int → Int) (lv ab : Int → Int) (Wd : Int → Int → Prop) (cm : Int → Int → Int) : Prop :=
  (rs_lv lv ab n ∧ rs_W Wd ∧ rs_cm cm) ∧ (∀ e, 0 ≤ e → e < n → Ez ((e + 1).toNat) 7 = lv e ∧ Ez ((e + 1).toNat) 8 = ab e) ∧ (∀ a b, 0 ≤ a → a < n → 0 ≤ b → b < n → (rs_K 1 Ez EF ((a + 1).toNat) ((b + 1).toNat) = 0 ↔ Wd a b)) ∧ ∀ a b, 0 ≤ a → a < n → 0 ≤ b → b < n → (¬ rs_K 2 Ez EF ((a + 1).toNat) ((b + 1).toNat) = 0 → rs_K 2 Ez EF ((a + 1).toNat) ((b + 1).toNat) = cm a b) ∧ (rs_K 2 Ez EF ((a + 1).toNat) ((b + 1).toNat) = 0 → rs_K 1 Ez EF ((a + 1).toNat) ((b + 1).toNat) = cm a b)
section RH
variable {lv ab s : Int → Int} {Wd : Int → Int → Prop} {cm : Int → Int → Int} {n : Int} {En En' : Nat → Nat → Nat} {Ez Ez' : Nat → Nat → Int} {EF EF' : Nat → Nat → Int → Int}
theorem rs_H.fr {S T : List Nat} (h : rs_H n Ez EF lv ab Wd cm) (he : eFr S T En Ez EF En' Ez' EF') (h1 : 1 ∉ S ∧ 2 ∉ S ∧ 7 ∉ S ∧ 8 ∉ S) (h2 : 1 ∉ T ∧ 2 ∉ T) : rs_H n Ez' EF' lv ab Wd cm := by
  obtain ⟨a, b, c, d⟩ := h
  have k1 : ∀ x y, rs_K 1 Ez' EF' x y = rs_K 1 Ez EF x y := fun x y => by unfold rs_K; rw [he.1 x 1 h1.1, he.1 y 1 h1.1, (he.2 x 1 h2.1).2, (he.2 y 1 h2.1).2]
  have k2 : ∀ x y, rs_K 2 Ez' EF' x y = rs_K 2 Ez EF x y := fun x y => by unfold rs_K; rw [he.1 x 2 h1.2.1, he.1 y 2 h1.2.1, (he.2 x 2 h2.2).2, (he.2 y 2 h2.2).2]
  refine ⟨a, fun e h3 h4 => ?_, fun x y h3 h4 h5 h6 => ?_, fun x y h3 h4 h5 h6 => ?_⟩
  · rw [he.1 _ 7 h1.2.2.1, he.1 _ 8 h1.2.2.2]; exact b e h3 h4
  · rw [k1]; exact c x y h3 h4 h5 h6
  · rw [k1, k2]; exact d x y h3 h4 h5 h6
theorem rs_H.same (h : rs_H n Ez EF lv ab Wd cm) {a b : Int} (ha : 0 ≤ a ∧ a < n) (hb : 0 ≤ b ∧ b < n) : (Ez ((a + 1).toNat) 7 = Ez ((b + 1).toNat) 7 ∧ rs_fo n Ez (Ez ((a + 1).toNat) 8) = rs_fo n Ez (Ez ((b + 1).toNat) 8) ∧ rs_K 1 Ez EF ((a + 1).toNat) ((b + 1).toNat) = 0) ↔ rs_al lv ab Wd (rs_sE Ez) a b := by
  obtain ⟨⟨hL, hW, hC⟩, h7, h1, h2⟩ := h
  obtain ⟨a7, a8⟩ := h7 a ha.1 ha.2
  obtain ⟨b7, b8⟩ := h7 b hb.1 hb.2
  have la := hL a ha.1 ha.2
  have lb := hL b hb.1 hb.2
  rw [a7, b7, a8, b8, h1 a b ha.1 ha.2 hb.1 hb.2]
  unfold rs_al
  constructor
  · rintro ⟨x1, x2, x3⟩
    refine ⟨x1, ?_, x3⟩
    by_cases c : lv a = 0
    · exact Or.inl c
    · unfold rs_fo at x2
      rw [if_pos (by omega), if_pos (by omega)] at x2
      exact Or.inr x2
  · rintro ⟨x1, x2, x3⟩
    refine ⟨x1, ?_, x3⟩
    unfold rs_fo
    rcases x2 with x2 | x2
    · rw [if_neg (by omega), if_neg (by omega)]
    · by_cases c : lv a = 0
      · rw [if_neg (by omega), if_neg (by omega)]
      · rw [if_pos (by omega), if_pos (by omega)]; exact x2
theorem rs_H.ord (h : rs_H n Ez EF lv ab Wd cm) {a b q : Int} (ha : 0 ≤ a ∧ a < n) (hb : 0 ≤ b ∧ b < n) (hq : (¬ rs_K 2 Ez EF ((a + 1).toNat) ((b + 1).toNat) = 0 ∧ q = rs_K 2 Ez EF ((a + 1).toNat) ((b + 1).toNat)) ∨ (rs_K 2 Ez EF ((a + 1).toNat) ((b + 1).toNat) = 0 ∧ q = rs_K 1 Ez EF ((a + 1).toNat) ((b + 1).toNat))) : q = cm a b := by
  obtain ⟨h1, h2⟩ := h.2.2.2 a b ha.1 ha.2 hb.1 hb.2
  rcases hq with ⟨x, y⟩ | ⟨x, y⟩
  · rw [y]; exact h1 x
  · rw [y]; exact h2 x
end RH
/-- the sorted rows, with one more -/
theorem rs_sort_add {cm : Int → Int → Int} {s f g : Int → Int} {e m i : Int} (hc : rs_cm cm) (he : 0 ≤ e) (hf : rs_so (rs_lt cm) f 0 m) (hm : ∀ x, rs_me f 0 m x ↔ (0 ≤ x ∧ x < e ∧ s x = x)) (hi : 0 ≤ i ∧ i ≤ m) (h1 : ∀ j, 0 ≤ j → j < i → g j = f j) (h2 : g i = e) (h3 : ∀ j, i < j → j ≤ m → g j = f (j - 1)) (hr : ∀ j, i ≤ j → j < m → rs_lt cm e (f j)) (hl : i = 0 ∨ 0 ≤ cm e (f (i - 1))) (hs : s e = e) :
    rs_so (rs_lt cm) g 0 (m + 1) ∧ ∀ x, rs_me g 0 (m + 1) x ↔ (0 ≤ x ∧ x < e + 1 ∧ s x = x) := by
  refine ⟨rs_ins hi h1 h2 h3 hf (fun j a b => ?_) hr, fun x => ?_⟩
  · rcases hl with hl | hl
    · omega
    · have q0 := (hm (f (i - 1))).mp ⟨i - 1, by omega, by omega, rfl⟩
      have q : rs_lt cm (f (i - 1)) e := by
        have := hc.1 e (f (i - 1))
        unfold rs_lt
        omega
      by_cases c : j = i - 1
      · rw [c]; exact q
      · exact rs_lt_tr hc (hf j (i - 1) a (by omega) (by omega)) q
  · rw [rs_ins_me hi h1 h2 h3, hm x]
    by_cases c : x = e
    · subst c
      exact ⟨fun _ => ⟨he, by omega, hs⟩, fun _ => Or.inl rfl⟩
    · constructor
      · rintro (h | ⟨h4, h5, h6⟩)
        · exact absurd h c
        · exact ⟨h4, by omega, h6⟩
      · rintro ⟨h4, h5, h6⟩
        exact Or.inr ⟨h4, by omega, h6⟩
/-! the rows above a row -/
section RA
variable {lv ab s : Int → Int} {Wd : Int → Int → Prop} {cm : Int → Int → Int} {n : Int}
/-- the row of a level at or above an entry's own: an entry of that level; a row, if it is its own or the entry is one -/
theorem rs_w_in (hL : rs_lv lv ab n) (hs : rs_P lv ab Wd n s) {x l : Int} (hx : 0 ≤ x ∧ x < n) (hf : s x = x) (hl : 0 ≤ l ∧ l ≤ lv x) : 0 ≤ rs_w lv ab s x l ∧ rs_w lv ab s x l ≤ x ∧ lv (rs_w lv ab s x l) = l ∧ s (rs_w lv ab s x l) = rs_w lv ab s x l := by
  have lx := hL x hx.1 hx.2
  by_cases c : lv x = l
  · rw [rs_w_is c]
    exact ⟨hx.1, Int.le_refl x, c, hf⟩
  · have p1 := hs (ab x) (by omega) (by omega)
    have i1 := rs_P_id hs (e := ab x) (by omega) (by omega)
    have v1 := rs_P_lv hs (e := ab x) (by omega) (by omega)
    by_cases c1 : lv x = l + 1
    · rw [rs_w_up1 c1]
      exact ⟨by omega, by omega, by omega, i1⟩
    · have l2 := hL (s (ab x)) (by omega) (by omega)
      have p2 := hs (ab (s (ab x))) (by omega) (by omega)
      have i2 := rs_P_id hs (e := ab (s (ab x))) (by omega) (by omega)
      have v2 := rs_P_lv hs (e := ab (s (ab x))) (by omega) (by omega)
      rw [rs_w_up2 (show lv x = l + 2 by omega)]
      exact ⟨by omega, by omega, by omega, i2⟩
/-- the row of the level before is that under which it lies -/
theorem rs_w_pre (hL : rs_lv lv ab n) (hs : rs_P lv ab Wd n s) {x l : Int} (hx : 0 ≤ x ∧ x < n) (hl : 1 ≤ l ∧ l ≤ lv x) : rs_w lv ab s x (l - 1) = s (ab (rs_w lv ab s x l)) := by
  have lx := hL x hx.1 hx.2
  by_cases c : lv x = l
  · rw [rs_w_is c, rs_w_up1 (by omega)]
  · rw [rs_w_up1 (show lv x = l + 1 by omega), rs_w_up2 (show lv x = l - 1 + 2 by omega)]
/-- ways above a row of its way are the same -/
theorem rs_w_ww (hL : rs_lv lv ab n) (hs : rs_P lv ab Wd n s) {x l k : Int} (hx : 0 ≤ x ∧ x < n) (hf : s x = x) (hl : l ≤ lv x) (hk : 0 ≤ k ∧ k ≤ l) : rs_w lv ab s (rs_w lv ab s x l) k = rs_w lv ab s x k := by
  have lx := hL x hx.1 hx.2
  have q := rs_w_in hL hs hx hf (l := l) (by omega)
  by_cases c : k = l
  · rw [c, rs_w_is q.2.2.1]
  · have hp := rs_w_pre hL hs hx (l := l) (by omega)
    by_cases c1 : k = l - 1
    · rw [c1, hp, rs_w_up1 (by omega)]
    · have hp2 := rs_w_pre hL hs hx (l := l - 1) (by omega)
      rw [show k = l - 1 - 1 by omega, hp2, hp, rs_w_up2 (by omega)]
/-- what is to come under a row of the level before -/
def rs_Q (lv ab s : Int → Int) (n l above x : Int) : Prop := (0 ≤ x ∧ x < n ∧ s x = x) ∧ l ≤ lv x ∧ (l = 0 ∨ rs_w lv ab s x (l - 1) = above)
theorem rs_Q_up (hL : rs_lv lv ab n) (hs : rs_P lv ab Wd n s) {l above e x : Int} (hl : 0 ≤ l ∧ l ≤ 2) (he : rs_Q lv ab s n l above e) (hle : lv e = l) (hx : rs_Q lv ab s n (l + 1) e x) : rs_Q lv ab s n l above x := by
  obtain ⟨⟨x1, x2, x3⟩, x4, x5⟩ := hx
  have x6 : rs_w lv ab s x l = e := by
    have q := x5.resolve_left (by omega)
    rw [show l + 1 - 1 = l by omega] at q
    exact q
  refine ⟨⟨x1, x2, x3⟩, by omega, ?_⟩
  by_cases c : l = 0
  · exact Or.inl c
  · refine Or.inr ?_
    rw [rs_w_pre hL hs ⟨x1, x2⟩ (by omega), x6, ← rs_w_up1 (lv := lv) (ab := ab) (s := s) (a := e) (l := l - 1) (by omega)]
    exact he.2.2.resolve_left c
/-- rows under one row have one way above -/
theorem rs_Q_way (hL : rs_lv lv ab n) (hs : rs_P lv ab Wd n s) {l above x y k : Int} (hx : rs_Q lv ab s n l above x) (hy : rs_Q lv ab s n l above y) (hk : 0 ≤ k ∧ k < l) : rs_w lv ab s x k = rs_w lv ab s y k := by
  obtain ⟨⟨x1, x2, x3⟩, x4, x5⟩ := hx
  obtain ⟨⟨y1, y2, y3⟩, y4, y5⟩ := hy
  rw [← rs_w_ww hL hs ⟨x1, x2⟩ x3 (l := l - 1) (k := k) (by omega) (by omega), ← rs_w_ww hL hs ⟨y1, y2⟩ y3 (l := l - 1) (k := k) (by omega) (by omega), x5.resolve_left (by omega), y5.resolve_left (by omega)]
/-- of two that lie under one row, the one whose row of this level is first is first -/
theorem rs_Q_bf (hL : rs_lv lv ab n) (hs : rs_P lv ab Wd n s) (hc : rs_cm cm) {l above x y : Int} (hl : 0 ≤ l ∧ l ≤ 2) (hx : rs_Q lv ab s n l above x) (hy : rs_Q lv ab s n l above y) (h : rs_lt cm (rs_w lv ab s x l) (rs_w lv ab s y l)) : rs_bf lv ab s cm x y := by
  have hn : ¬ rs_w lv ab s x l = rs_w lv ab s y l := fun e => by rw [e] at h; exact rs_lt_ir hc _ h
  have qx := rs_w_in hL hs ⟨hx.1.1, hx.1.2.1⟩ hx.1.2.2 (l := l) ⟨hl.1, hx.2.1⟩
  have qy := rs_w_in hL hs ⟨hy.1.1, hy.1.2.1⟩ hy.1.2.2 (l := l) ⟨hl.1, hy.2.1⟩
  exact (rs_bf_dec hl (fun k a b => rs_Q_way hL hs hx hy ⟨a, b⟩) rfl rfl hn).mpr ⟨hn, Or.inr ⟨by omega, h⟩⟩
/-- a row is before what lies under it -/
theorem rs_Q_dn (hL : rs_lv lv ab n) (hs : rs_P lv ab Wd n s) {l above e x : Int} (hl : 0 ≤ l ∧ l ≤ 1) (he : rs_Q lv ab s n l above e) (hle : lv e = l) (hx : rs_Q lv ab s n (l + 1) e x) : rs_bf lv ab s cm e x := by
  have hxu := rs_Q_up hL hs (by omega) he hle hx
  obtain ⟨⟨x1, x2, x3⟩, x4, x5⟩ := hx
  have x6 : rs_w lv ab s x l = e := by
    have q := x5.resolve_left (by omega)
    rw [show l + 1 - 1 = l by omega] at q
    exact q
  have qx := rs_w_in hL hs ⟨x1, x2⟩ x3 (l := l + 1) (by omega)
  have w1 : rs_w lv ab s e (l + 1) = -1 := rs_w_low (by omega)
  refine (rs_bf_dec (le := l + 1) (by omega) (fun k a b => ?_) rfl rfl (by omega)).mpr ⟨by omega, Or.inl w1⟩
  by_cases c : k = l
  · rw [c, x6, rs_w_is hle]
  · exact rs_Q_way hL hs he hxu (by omega)
/-- the rows in order: one more behind all -/
theorem rs_so_snoc {R : Int → Int → Prop} {f g : Int → Int} {m e : Int} (h0 : 0 ≤ m) (hf : rs_so R f 0 m) (h1 : ∀ j, 0 ≤ j → j < m → g j = f j) (h2 : g m = e) (hl : ∀ j, 0 ≤ j → j < m → R (f j) e) : rs_so R g 0 (m + 1) := by
  refine rs_ins (i := m) (by omega) h1 h2 (fun j a b => absurd b (by omega)) hf hl (fun j a b => absurd b (by omega))
theorem rs_me_snoc {f g : Int → Int} {m e x : Int} (h0 : 0 ≤ m) (h1 : ∀ j, 0 ≤ j → j < m → g j = f j) (h2 : g m = e) : rs_me g 0 (m + 1) x ↔ (x = e ∨ rs_me f 0 m x) :=
  rs_ins_me (i := m) (by omega) h1 h2 (fun j a b => absurd b (by omega))
end RA
/-- what the rows of the class are, once they are known -/
def rs_R (z : Nat → Int) (F : Nat → Int → Int) (Ez : Nat → Nat → Int) (lv ab : Int → Int) (Wd : Int → Int → Prop) (cm : Int → Int → Int) : Prop := rs_C lv ab Wd (z 12) (rs_sE Ez) ∧ rs_so (rs_bf lv ab (rs_sE Ez) cm) (F 1) 0 (z 1) ∧ ∀ x, rs_me (F 1) 0 (z 1) x ↔ (0 ≤ x ∧ x < z 12 ∧ rs_sE Ez x = x)
theorem rs_R.fr {z z' : Nat → Int} {F F' : Nat → Int → Int} {Ez Ez' : Nat → Nat → Int} {lv ab : Int → Int} {Wd : Int → Int → Prop} {cm : Int → Int → Int} (h : rs_R z F Ez lv ab Wd cm) (h12 : z' 12 = z 12) (h1 : z' 1 = z 1) (f1 : F' 1 = F 1) (he : ∀ j, Ez' j 10 = Ez j 10) : rs_R z' F' Ez' lv ab Wd cm := by
  have e : rs_sE Ez' = rs_sE Ez := by funext x; exact he _
  unfold rs_R at h ⊢
  rw [h12, h1, f1, e]
  exact h
theorem rs_added {L z z' v : Int} {F F' : Int → Int} (h0 : 0 ≤ z) (hz : z < L) (h : iAdd L z F z' F' v) : z' = z + 1 ∧ (∀ j, 0 ≤ j → j < z → F' j = F j) ∧ F' z = v := by
  obtain ⟨h1, h2⟩ := h
  rcases h1 with ⟨a, b⟩ | ⟨a, b, c⟩
  · omega
  · exact ⟨b, h2, c⟩
/-! the rows under a row, one by one -/
section RU
variable {lv ab s f : Int → Int} {Wd : Int → Int → Prop} {cm : Int → Int → Int} {n l above k m : Int} {M0 M1 M2 M3 : Int → Prop}
theorem rs_under_step (hL : rs_lv lv ab n) (hs : rs_P lv ab Wd n s) (hl : 0 ≤ l ∧ l ≤ 2) (hk : 0 ≤ k) (he : rs_Q lv ab s n l above (f k)) (hle : lv (f k) = l) (h1 : ∀ x, M1 x ↔ (M0 x ∨ (rs_Q lv ab s n l above x ∧ ∃ i, 0 ≤ i ∧ i < k ∧ rs_w lv ab s x l = f i))) (h2 : ∀ x, M2 x ↔ (x = f k ∨ M1 x)) (h3 : ∀ x, M3 x ↔ (M2 x ∨ rs_Q lv ab s n (l + 1) (f k) x)) (x : Int) : M3 x ↔ (M0 x ∨ (rs_Q lv ab s n l above x ∧ ∃ i, 0 ≤ i ∧ i < k + 1 ∧ rs_w lv ab s x l = f i)) := by
  rw [h3 x, h2 x, h1 x]
  constructor
  · rintro ((rfl | h | ⟨h, i, a, b, c⟩) | h)
    · exact Or.inr ⟨he, k, hk, by omega, rs_w_is hle⟩
    · exact Or.inl h
    · exact Or.inr ⟨h, i, a, by omega, c⟩
    · have q := h.2.2.resolve_left (by omega)
      rw [show l + 1 - 1 = l by omega] at q
      exact Or.inr ⟨rs_Q_up hL hs hl he hle h, k, hk, by omega, q⟩
  · rintro (h | ⟨h, i, a, b, c⟩)
    · exact Or.inl (Or.inr (Or.inl h))
    · by_cases d : i = k
      · subst d
        by_cases g : lv x = l
        · rw [rs_w_is g] at c
          exact Or.inl (Or.inl c)
        · exact Or.inr ⟨h.1, by have := h.2.1; omega, Or.inr (by rw [show l + 1 - 1 = l by omega]; exact c)⟩
      · exact Or.inl (Or.inr (Or.inr ⟨h, i, a, by omega, c⟩))
theorem rs_under_skip (hL : rs_lv lv ab n) (hs : rs_P lv ab Wd n s) (hl : 0 ≤ l ∧ l ≤ 2) (hn : ¬ (lv (f k) = l ∧ (l = 0 ∨ s (ab (f k)) = above))) (h1 : ∀ x, M1 x ↔ (M0 x ∨ (rs_Q lv ab s n l above x ∧ ∃ i, 0 ≤ i ∧ i < k ∧ rs_w lv ab s x l = f i))) (x : Int) : M1 x ↔ (M0 x ∨ (rs_Q lv ab s n l above x ∧ ∃ i, 0 ≤ i ∧ i < k + 1 ∧ rs_w lv ab s x l = f i)) := by
  rw [h1 x]
  constructor
  · rintro (h | ⟨h, i, a, b, c⟩)
    · exact Or.inl h
    · exact Or.inr ⟨h, i, a, by omega, c⟩
  · rintro (h | ⟨h, i, a, b, c⟩)
    · exact Or.inl h
    · by_cases d : i = k
      · exfalso
        subst d
        have q := rs_w_in hL hs ⟨h.1.1, h.1.2.1⟩ h.1.2.2 (l := l) ⟨hl.1, h.2.1⟩
        rw [c] at q
        refine hn ⟨q.2.2.1, ?_⟩
        by_cases g : l = 0
        · exact Or.inl g
        · have p := rs_w_pre hL hs ⟨h.1.1, h.1.2.1⟩ (l := l) ⟨by omega, h.2.1⟩
          rw [c, h.2.2.resolve_left g] at p
          exact Or.inr p.symm
      · exact Or.inr ⟨h, i, a, by omega, c⟩
theorem rs_under_end (hL : rs_lv lv ab n) (hs : rs_P lv ab Wd n s) (hl : 0 ≤ l ∧ l ≤ 2) (hm : ∀ x, rs_me f 0 m x ↔ (0 ≤ x ∧ x < n ∧ s x = x)) (h1 : ∀ x, M1 x ↔ (M0 x ∨ (rs_Q lv ab s n l above x ∧ ∃ i, 0 ≤ i ∧ i < m ∧ rs_w lv ab s x l = f i))) (x : Int) : M1 x ↔ (M0 x ∨ rs_Q lv ab s n l above x) := by
  rw [h1 x]
  constructor
  · rintro (h | ⟨h, -⟩)
    · exact Or.inl h
    · exact Or.inr h
  · rintro (h | h)
    · exact Or.inl h
    · have q := rs_w_in hL hs ⟨h.1.1, h.1.2.1⟩ h.1.2.2 (l := l) ⟨hl.1, h.2.1⟩
      obtain ⟨j, a, b, c⟩ := (hm (rs_w lv ab s x l)).mpr ⟨q.1, by have := h.1.2.1; omega, q.2.2.2⟩
      exact Or.inr ⟨h, j, a, b, c.symm⟩
/-- what stands already is before what comes under f k -/
theorem rs_under_bf (hL : rs_lv lv ab n) (hs : rs_P lv ab Wd n s) (hc : rs_cm cm) (hl : 0 ≤ l ∧ l ≤ 2) (hk : 0 ≤ k ∧ k < m) (hf : rs_so (rs_lt cm) f 0 m) (hp : ∀ y, M0 y → ∀ x, rs_Q lv ab s n l above x → rs_bf lv ab s cm y x) (h1 : ∀ x, M1 x ↔ (M0 x ∨ (rs_Q lv ab s n l above x ∧ ∃ i, 0 ≤ i ∧ i < k ∧ rs_w lv ab s x l = f i))) {y x : Int} (hy : M1 y) (hx : rs_Q lv ab s n l above x) (hw : rs_w lv ab s x l = f k) : rs_bf lv ab s cm y x := by
  rcases (h1 y).mp hy with h | ⟨h, i, a, b, c⟩
  · exact hp y h x hx
  · refine rs_Q_bf hL hs hc hl h hx ?_
    rw [c, hw]
    exact hf i k a b hk.2
end RU
/-! what an asking call of the reference keeps -/
def mSt (I : Nat → Int) (F : Nat → Int → Int) : Prop := rs_lv (F 2) (F 3) (I 1) ∧ (∀ e, 0 ≤ e → e < I 1 → kf_mSg F e) ∧ (I 14 = 0 ∨ I 14 = 1) ∧ (I 15 = 0 ∨ I 15 = 1)
def mKb (I : Nat → Int) (F : Nat → Int → Int) : Prop := mSt I F ∧ mKs I F
theorem mSt.fr {I J : Nat → Int} {F G : Nat → Int → Int} (h : mSt I F) (i1 : J 1 = I 1) (i14 : J 14 = I 14) (i15 : J 15 = I 15) (f2 : G 2 = F 2) (f3 : G 3 = F 3) (f4 : G 4 = F 4) (f5 : G 5 = F 5) : mSt J G := by
  obtain ⟨a, b, c, d⟩ := h
  refine ⟨by rw [f2, f3, i1]; exact a, fun e h1 h2 => kf_mSg_fr (b e h1 (by rw [← i1]; exact h2)) f4 f5, by rw [i14]; exact c, by rw [i15]; exact d⟩
theorem mKb.fr {SI SF : List Nat} {I J : Nat → Int} {F G : Nat → Int → Int} (h : mKb I F) (f : mfr SI SF I F J G) (h1 : 1 ∉ SI ∧ 14 ∉ SI ∧ 15 ∉ SI ∧ 16 ∉ SI ∧ 19 ∉ SI) (h2 : 2 ∉ SF ∧ 3 ∉ SF ∧ 4 ∉ SF ∧ 5 ∉ SF ∧ 17 ∉ SF ∧ 18 ∉ SF) : mKb J G := by
  obtain ⟨a1, a14, a15, a16, a19⟩ := h1
  obtain ⟨b2, b3, b4, b5, b17, b18⟩ := h2
  refine ⟨h.1.fr (f.1 1 a1) (f.1 14 a14) (f.1 15 a15) (f.2 2 b2) (f.2 3 b3) (f.2 4 b4) (f.2 5 b5), fun h9 => ?_⟩
  rw [f.1 16 a16] at h9
  exact (h.2 h9).fr (f.1 1 a1) (f.1 14 a14) (f.1 15 a15) (f.1 19 a19) (f.2 2 b2) (f.2 3 b3) (f.2 4 b4) (f.2 5 b5) (f.2 17 b17) (f.2 18 b18)
theorem mKb.look {SF : List Nat} {I J : Nat → Int} {F G : Nat → Int → Int} (h : mKb I F) (f : mfr [16, 19] SF I F J G) (h2 : 2 ∉ SF ∧ 3 ∉ SF ∧ 4 ∉ SF ∧ 5 ∉ SF) (hr : mKr J G) : mKb J G :=
  ⟨h.1.fr (f.1 1 (by decide)) (f.1 14 (by decide)) (f.1 15 (by decide)) (f.2 2 h2.1) (f.2 3 h2.2.1) (f.2 4 h2.2.2.1) (f.2 5 h2.2.2.2), fun _ => hr⟩
theorem mKb.ui {I : Nat → Int} {F : Nat → Int → Int} (h : mKb I F) (k : Nat) (hk : k ∉ ([1, 14, 15, 16, 19] : List Nat)) (v : Int) : mKb (va_up I k v) F := by
  have hk' : ∀ j, j ∈ ([1, 14, 15, 16, 19] : List Nat) → va_up I k v j = I j := fun j hj => va_up_ne _ _ (fun e => hk (e ▸ hj))
  refine ⟨h.1.fr (hk' 1 (by decide)) (hk' 14 (by decide)) (hk' 15 (by decide)) rfl rfl rfl rfl, fun h9 => ?_⟩
  rw [hk' 16 (by decide)] at h9
  exact (h.2 h9).fr (hk' 1 (by decide)) (hk' 14 (by decide)) (hk' 15 (by decide)) (hk' 19 (by decide)) rfl rfl rfl rfl rfl rfl
theorem mKb.uf {I : Nat → Int} {F : Nat → Int → Int} (h : mKb I F) (k : Nat) (hk : k ∉ ([2, 3, 4, 5, 17, 18] : List Nat)) (v : Int → Int) : mKb I (va_up F k v) := by
  have hk' : ∀ j, j ∈ ([2, 3, 4, 5, 17, 18] : List Nat) → va_up F k v j = F j := fun j hj => va_up_ne _ _ (fun e => hk (e ▸ hj))
  exact ⟨h.1.fr rfl rfl rfl (hk' 2 (by decide)) (hk' 3 (by decide)) (hk' 4 (by decide)) (hk' 5 (by decide)), fun h9 => (h.2 h9).fr rfl rfl rfl rfl (hk' 2 (by decide)) (hk' 3 (by decide)) (hk' 4 (by decide)) (hk' 5 (by decide)) (hk' 17 (by decide)) (hk' 18 (by decide))⟩
def rs_RK (z : Nat → Int) (F : Nat → Int → Int) (Ez : Nat → Nat → Int) (lv ab : Int → Int) (Wd : Int → Int → Prop) (cm : Int → Int → Int) : Prop := z 15 = 1 → rs_R z F Ez lv ab Wd cm
theorem rs_RK.fr {z z' : Nat → Int} {F F' : Nat → Int → Int} {Ez Ez' : Nat → Nat → Int} {lv ab : Int → Int} {Wd : Int → Int → Prop} {cm : Int → Int → Int} (h : rs_RK z F Ez lv ab Wd cm) (h15 : z' 15 = z 15) (h12 : z' 12 = z 12) (h1 : z' 1 = z 1) (f1 : F' 1 = F 1) (he : ∀ j, Ez' j 10 = Ez j 10) : rs_RK z' F' Ez' lv ab Wd cm := fun h9 => (h (by rw [← h15]; exact h9)).fr h12 h1 f1 he
theorem rs_K_bd (k : Nat) (Ez : Nat → Nat → Int) (EF : Nat → Nat → Int → Int) (a b : Nat) : -1 ≤ rs_K k Ez EF a b ∧ rs_K k Ez EF a b ≤ 1 := kf_lx_bd _ _
