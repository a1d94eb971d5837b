/-! rows: which entry an entry is the same as; the order of rows; two rows of numbers in one order -/
def rs_lv (lv ab : Int → Int) (n : Int) : Prop := ∀ e, 0 ≤ e → e < n → (0 ≤ lv e ∧ lv e ≤ 2) ∧ ((lv e = 0 ∧ ab e = -1) ∨ (1 ≤ lv e ∧ 0 ≤ ab e ∧ ab e < e ∧ lv (ab e) = lv e - 1))
def rs_al (lv ab : Int → Int) (Wd : Int → Int → Prop) (s : Int → Int) (a b : Int) : Prop := lv a = lv b ∧ (lv a = 0 ∨ s (ab a) = s (ab b)) ∧ Wd a b
/-- the reference's way: the least one that is a row itself and alike -/
def rs_P (lv ab : Int → Int) (Wd : Int → Int → Prop) (n : Int) (s : Int → Int) : Prop := ∀ e, 0 ≤ e → e < n → (0 ≤ s e ∧ s e ≤ e) ∧ (s e = e ∨ (s (s e) = s e ∧ rs_al lv ab Wd s e (s e))) ∧ ∀ k, 0 ≤ k → k < s e → ¬ (s k = k ∧ rs_al lv ab Wd s e k)
/-- the class's way: the least one that is alike -/
def rs_C (lv ab : Int → Int) (Wd : Int → Int → Prop) (n : Int) (s : Int → Int) : Prop := ∀ e, 0 ≤ e → e < n → (0 ≤ s e ∧ s e ≤ e) ∧ (s e = e ∨ rs_al lv ab Wd s e (s e)) ∧ ∀ k, 0 ≤ k → k < s e → ¬ rs_al lv ab Wd s e k
/-- words that are the same: an equivalence -/
def rs_W (Wd : Int → Int → Prop) : Prop := (∀ a b, Wd a b → Wd b a) ∧ ∀ a b c, Wd a b → Wd b c → Wd a c
section RS
variable {lv ab : Int → Int} {Wd : Int → Int → Prop} {n : Int} {s t : Int → Int}
theorem rs_al_tr (hW : rs_W Wd) {a b c : Int} (h1 : rs_al lv ab Wd s a b) (h2 : rs_al lv ab Wd s b c) : rs_al lv ab Wd s a c := by
  obtain ⟨x1, x2, x3⟩ := h1
  obtain ⟨y1, y2, y3⟩ := h2
  refine ⟨x1.trans y1, ?_, hW.2 a b c x3 y3⟩
  by_cases c0 : lv a = 0
  · exact Or.inl c0
  · exact Or.inr ((x2.resolve_left c0).trans (y2.resolve_left (by omega)))
theorem rs_al_sy (hW : rs_W Wd) {a b : Int} (h1 : rs_al lv ab Wd s a b) : rs_al lv ab Wd s b a := by
  obtain ⟨x1, x2, x3⟩ := h1
  refine ⟨x1.symm, ?_, hW.1 a b x3⟩
  rcases x2 with h | h
  · exact Or.inl (by omega)
  · exact Or.inr h.symm
/-- it looks at what is above alone -/
theorem rs_al_cg (hL : rs_lv lv ab n) {e a b : Int} (h : ∀ k, 0 ≤ k → k < e → s k = t k) (ha : 0 ≤ a ∧ a ≤ e ∧ a < n) (hb : 0 ≤ b ∧ b ≤ e ∧ b < n) (h1 : rs_al lv ab Wd s a b) : rs_al lv ab Wd t a b := by
  obtain ⟨x1, x2, x3⟩ := h1
  refine ⟨x1, ?_, x3⟩
  by_cases c0 : lv a = 0
  · exact Or.inl c0
  · have la := hL a ha.1 ha.2.2
    have lb := hL b hb.1 hb.2.2
    rw [← h (ab a) (by omega) (by omega), ← h (ab b) (by omega) (by omega)]
    exact Or.inr (x2.resolve_left c0)
theorem rs_uniq (hL : rs_lv lv ab n) (hW : rs_W Wd) (hs : rs_P lv ab Wd n s) (ht : rs_C lv ab Wd n t) : ∀ (m : Nat) (e : Int), e = m → e < n → s e = t e := by
  intro m
  induction m using Nat.strongRecOn with
  | ind m ih =>
    intro e he hn
    have hlt : ∀ k, 0 ≤ k → k < e → s k = t k := fun k h1 h2 => ih k.toNat (by omega) k (by omega) (by omega)
    obtain ⟨s1, s2, s3⟩ := hs e (by omega) hn
    obtain ⟨t1, t2, t3⟩ := ht e (by omega) hn
    rcases Int.lt_trichotomy (s e) (t e) with c | c | c
    · -- the reference's is less
      have h1 : rs_al lv ab Wd s e (s e) := (s2.resolve_left (by omega)).2
      exact absurd (rs_al_cg hL hlt (by omega) (by omega) h1) (t3 (s e) s1.1 c)
    · exact c
    · have h1 : rs_al lv ab Wd t e (t e) := t2.resolve_left (by omega)
      have h2 : t (t e) = t e := by
        obtain ⟨q1, q2, q3⟩ := ht (t e) t1.1 (by omega)
        rcases q2 with q | q
        · exact q
        · by_cases d : t (t e) = t e
          · exact d
          · exact absurd (rs_al_tr hW h1 q) (t3 _ q1.1 (by omega))
      have h3 : s (t e) = t e := (hlt (t e) t1.1 (by omega)).trans h2
      exact absurd ⟨h3, rs_al_cg hL (fun k a b => (hlt k a b).symm) (by omega) (by omega) h1⟩ (s3 (t e) t1.1 c)
theorem rs_eq (hL : rs_lv lv ab n) (hW : rs_W Wd) (hs : rs_P lv ab Wd n s) (ht : rs_C lv ab Wd n t) {e : Int} (h0 : 0 ≤ e) (h1 : e < n) : s e = t e := rs_uniq hL hW hs ht e.toNat e (by omega) h1
/-- of a row it is that row; it has its level -/
theorem rs_P_id (hs : rs_P lv ab Wd n s) {e : Int} (h0 : 0 ≤ e) (h1 : e < n) : s (s e) = s e := by
  obtain ⟨a, b, -⟩ := hs e h0 h1
  rcases b with b | b
  · rw [b, b]
  · exact b.1
theorem rs_P_lv (hs : rs_P lv ab Wd n s) {e : Int} (h0 : 0 ≤ e) (h1 : e < n) : lv (s e) = lv e := by
  obtain ⟨a, b, -⟩ := hs e h0 h1
  rcases b with b | b
  · rw [b]
  · exact b.2.1.symm
theorem rs_C_P (hW : rs_W Wd) (ht : rs_C lv ab Wd n t) : rs_P lv ab Wd n t := by
  intro e h0 h1
  obtain ⟨t1, t2, t3⟩ := ht e h0 h1
  refine ⟨t1, ?_, fun k a b q => t3 k a b q.2⟩
  rcases t2 with t2 | t2
  · exact Or.inl t2
  · by_cases d : t e = e
    · exact Or.inl d
    refine Or.inr ⟨?_, t2⟩
    obtain ⟨q1, q2, q3⟩ := ht (t e) t1.1 (by omega)
    rcases q2 with q | q
    · exact q
    · by_cases d2 : t (t e) = t e
      · exact d2
      · exact absurd (rs_al_tr hW t2 q) (t3 _ q1.1 (by omega))
end RS
/-! the order -/
def rs_cm (cm : Int → Int → Int) : Prop := (∀ a b, cm b a = - cm a b) ∧ ∀ a b c, cm a b ≤ 0 → cm b c ≤ 0 → cm a c ≤ 0 ∧ (cm a c = 0 → cm a b = 0 ∧ cm b c = 0)
def rs_lt (cm : Int → Int → Int) (x y : Int) : Prop := cm x y < 0 ∨ (cm x y = 0 ∧ x < y)
theorem rs_lt_tr {cm : Int → Int → Int} (h : rs_cm cm) {a b c : Int} (h1 : rs_lt cm a b) (h2 : rs_lt cm b c) : rs_lt cm a c := by
  unfold rs_lt at h1 h2 ⊢
  have q := h.2 a b c (by omega) (by omega)
  omega
theorem rs_lt_ir {cm : Int → Int → Int} (h : rs_cm cm) (a : Int) : ¬ rs_lt cm a a := by
  unfold rs_lt
  have := h.1 a a
  omega
theorem rs_lt_to {cm : Int → Int → Int} (h : rs_cm cm) {a b : Int} (hn : ¬ a = b) : rs_lt cm a b ∨ rs_lt cm b a := by
  unfold rs_lt
  have := h.1 a b
  omega
/-- none stands first -/
def rs_cw (cm : Int → Int → Int) (x y : Int) : Prop := ¬ x = y ∧ (x = -1 ∨ (¬ y = -1 ∧ rs_lt cm x y))
theorem rs_cw_tr {cm : Int → Int → Int} (h : rs_cm cm) {a b c : Int} (h1 : rs_cw cm a b) (h2 : rs_cw cm b c) : rs_cw cm a c := by
  obtain ⟨x1, x2⟩ := h1
  obtain ⟨y1, y2⟩ := h2
  rcases x2 with x2 | ⟨x2, x3⟩
  · have hc : ¬ c = -1 := by rcases y2 with y2 | y2 <;> omega
    exact ⟨by omega, Or.inl x2⟩
  · obtain ⟨y3, y4⟩ := y2.resolve_left x2
    have q := rs_lt_tr h x3 y4
    exact ⟨fun e => rs_lt_ir h a (by rw [← e] at q; exact q), Or.inr ⟨y3, q⟩⟩
theorem rs_cw_as {cm : Int → Int → Int} (h : rs_cm cm) {a b : Int} (h1 : rs_cw cm a b) (h2 : rs_cw cm b a) : False := (rs_cw_tr h h1 h2).1 rfl
theorem rs_cw_to {cm : Int → Int → Int} (h : rs_cm cm) {a b : Int} (hn : ¬ a = b) : rs_cw cm a b ∨ rs_cw cm b a := by
  by_cases ca : a = -1
  · exact Or.inl ⟨hn, Or.inl ca⟩
  · by_cases cb : b = -1
    · exact Or.inr ⟨fun e => hn e.symm, Or.inl cb⟩
    · rcases rs_lt_to h hn with q | q
      · exact Or.inl ⟨hn, Or.inr ⟨cb, q⟩⟩
      · exact Or.inr ⟨fun e => hn e.symm, Or.inr ⟨ca, q⟩⟩
/-- the row of a level in which an entry's row lies; -1 below its own -/
def rs_w (lv ab s : Int → Int) (e l : Int) : Int := if lv e = l then e else if lv e = l + 1 then s (ab e) else if lv e = l + 2 then s (ab (s (ab e))) else -1
def rs_bf (lv ab s : Int → Int) (cm : Int → Int → Int) (a b : Int) : Prop :=
  rs_cw cm (rs_w lv ab s a 0) (rs_w lv ab s b 0) ∨ (rs_w lv ab s a 0 = rs_w lv ab s b 0 ∧ (rs_cw cm (rs_w lv ab s a 1) (rs_w lv ab s b 1) ∨ (rs_w lv ab s a 1 = rs_w lv ab s b 1 ∧ rs_cw cm (rs_w lv ab s a 2) (rs_w lv ab s b 2))))
section RB
variable {lv ab s t : Int → Int} {cm : Int → Int → Int} {n : Int}
theorem rs_bf_tr (h : rs_cm cm) {a b c : Int} (h1 : rs_bf lv ab s cm a b) (h2 : rs_bf lv ab s cm b c) : rs_bf lv ab s cm a c := by
  unfold rs_bf at h1 h2 ⊢
  generalize rs_w lv ab s a 0 = a0 at *
  generalize rs_w lv ab s b 0 = b0 at *
  generalize rs_w lv ab s c 0 = c0 at *
  generalize rs_w lv ab s a 1 = a1 at *
  generalize rs_w lv ab s b 1 = b1 at *
  generalize rs_w lv ab s c 1 = c1 at *
  generalize rs_w lv ab s a 2 = a2 at *
  generalize rs_w lv ab s b 2 = b2 at *
  generalize rs_w lv ab s c 2 = c2 at *
  rcases h1 with x | ⟨rfl, x⟩
  · rcases h2 with y | ⟨rfl, y⟩
    · exact Or.inl (rs_cw_tr h x y)
    · exact Or.inl x
  · rcases h2 with y | ⟨rfl, y⟩
    · exact Or.inl y
    · refine Or.inr ⟨rfl, ?_⟩
      rcases x with x | ⟨rfl, x⟩
      · rcases y with y | ⟨rfl, y⟩
        · exact Or.inl (rs_cw_tr h x y)
        · exact Or.inl x
      · rcases y with y | ⟨rfl, y⟩
        · exact Or.inl y
        · exact Or.inr ⟨rfl, rs_cw_tr h x y⟩
theorem rs_bf_ir (h : rs_cm cm) (a : Int) : ¬ rs_bf lv ab s cm a a := by
  unfold rs_bf
  rintro (x | ⟨-, x | ⟨-, x⟩⟩) <;> exact x.1 rfl
theorem rs_w_own (a : Int) : rs_w lv ab s a (lv a) = a := if_pos rfl
theorem rs_w_low {a l : Int} (h : lv a < l) : rs_w lv ab s a l = -1 := by
  unfold rs_w
  rw [if_neg (by omega), if_neg (by omega), if_neg (by omega)]
theorem rs_w_up1 {a l : Int} (h : lv a = l + 1) : rs_w lv ab s a l = s (ab a) := by
  unfold rs_w
  rw [if_neg (by omega), if_pos h]
theorem rs_w_up2 {a l : Int} (h : lv a = l + 2) : rs_w lv ab s a l = s (ab (s (ab a))) := by
  unfold rs_w
  rw [if_neg (by omega), if_neg (by omega), if_pos h]
theorem rs_bf_to (h : rs_cm cm) (hL : rs_lv lv ab n) {a b : Int} (ha : 0 ≤ a ∧ a < n) (hb : 0 ≤ b ∧ b < n) (hn : ¬ a = b) : rs_bf lv ab s cm a b ∨ rs_bf lv ab s cm b a := by
  have la := (hL a ha.1 ha.2).1
  have lb := (hL b hb.1 hb.2).1
  by_cases e0 : rs_w lv ab s a 0 = rs_w lv ab s b 0
  · by_cases e1 : rs_w lv ab s a 1 = rs_w lv ab s b 1
    · by_cases e2 : rs_w lv ab s a 2 = rs_w lv ab s b 2
      · exfalso
        have hw : ∀ l, 0 ≤ l → l ≤ 2 → rs_w lv ab s a l = rs_w lv ab s b l := by
          intro l h1 h2
          rcases (show l = 0 ∨ l = 1 ∨ l = 2 by omega) with rfl | rfl | rfl
          · exact e0
          · exact e1
          · exact e2
        rcases Int.lt_trichotomy (lv a) (lv b) with c | c | c
        · have q := hw (lv b) (by omega) (by omega)
          rw [rs_w_low c, rs_w_own] at q
          omega
        · have q := hw (lv b) (by omega) (by omega)
          rw [← c, rs_w_own, c, rs_w_own] at q
          exact hn q
        · have q := hw (lv a) (by omega) (by omega)
          rw [rs_w_low c, rs_w_own] at q
          omega
      · rcases rs_cw_to h e2 with q | q
        · exact Or.inl (Or.inr ⟨e0, Or.inr ⟨e1, q⟩⟩)
        · exact Or.inr (Or.inr ⟨e0.symm, Or.inr ⟨e1.symm, q⟩⟩)
    · rcases rs_cw_to h e1 with q | q
      · exact Or.inl (Or.inr ⟨e0, Or.inl q⟩)
      · exact Or.inr (Or.inr ⟨e0.symm, Or.inl q⟩)
  · rcases rs_cw_to h e0 with q | q
    · exact Or.inl (Or.inl q)
    · exact Or.inr (Or.inl q)
/-- it looks at what is above alone -/
theorem rs_w_cg (hL : rs_lv lv ab n) {m a : Int} (h : ∀ k, 0 ≤ k → k < m → s k = t k) (hs : ∀ k, 0 ≤ k → k < m → 0 ≤ s k ∧ s k ≤ k ∧ lv (s k) = lv k) (ha : 0 ≤ a ∧ a ≤ m ∧ a < n) (hm : m ≤ n) (l : Int) (hl : 0 ≤ l) : rs_w lv ab s a l = rs_w lv ab t a l := by
  have la := hL a ha.1 ha.2.2
  by_cases c0 : lv a = l
  · rw [← c0, rs_w_own, rs_w_own]
  · by_cases c1 : lv a = l + 1
    · rw [rs_w_up1 c1, rs_w_up1 c1]
      exact h (ab a) (by omega) (by omega)
    · by_cases c2 : lv a = l + 2
      · have h1 := h (ab a) (by omega) (by omega)
        have h2 := hs (ab a) (by omega) (by omega)
        have l2 := hL (s (ab a)) (by omega) (by omega)
        rw [rs_w_up2 c2, rs_w_up2 c2, ← h1]
        exact h _ (by omega) (by omega)
      · unfold rs_w
        rw [if_neg c0, if_neg c1, if_neg c2, if_neg c0, if_neg c1, if_neg c2]
theorem rs_bf_cg (hL : rs_lv lv ab n) {m a b : Int} (h : ∀ k, 0 ≤ k → k < m → s k = t k) (hs : ∀ k, 0 ≤ k → k < m → 0 ≤ s k ∧ s k ≤ k ∧ lv (s k) = lv k) (ha : 0 ≤ a ∧ a ≤ m ∧ a < n) (hb : 0 ≤ b ∧ b ≤ m ∧ b < n) (hm : m ≤ n) : rs_bf lv ab s cm a b ↔ rs_bf lv ab t cm a b := by
  unfold rs_bf
  rw [rs_w_cg hL h hs ha hm 0 (by omega), rs_w_cg hL h hs ha hm 1 (by omega), rs_w_cg hL h hs ha hm 2 (by omega), rs_w_cg hL h hs hb hm 0 (by omega), rs_w_cg hL h hs hb hm 1 (by omega), rs_w_cg hL h hs hb hm 2 (by omega)]
end RB
/-! rows of numbers in an order -/
def rs_so (R : Int → Int → Prop) (f : Int → Int) (a m : Int) : Prop := ∀ i j, a ≤ i → i < j → j < m → R (f i) (f j)
def rs_me (f : Int → Int) (a m x : Int) : Prop := ∃ j, a ≤ j ∧ j < m ∧ f j = x
/-- e is put in at the place i -/
theorem rs_ins {R : Int → Int → Prop} {f g : Int → Int} {m i e : Int} (hi : 0 ≤ i ∧ i ≤ m) (h1 : ∀ j, 0 ≤ j → j < i → g j = f j) (h2 : g i = e) (h3 : ∀ j, i < j → j ≤ m → g j = f (j - 1)) (hf : rs_so R f 0 m) (hl : ∀ j, 0 ≤ j → j < i → R (f j) e) (hr : ∀ j, i ≤ j → j < m → R e (f j)) : rs_so R g 0 (m + 1) := by
  intro a b h4 h5 h6
  by_cases ca : a < i
  · rw [h1 a h4 ca]
    by_cases cb : b < i
    · rw [h1 b (by omega) cb]; exact hf a b h4 h5 (by omega)
    · by_cases cc : b = i
      · rw [cc, h2]; exact hl a h4 ca
      · rw [h3 b (by omega) (by omega)]; exact hf a (b - 1) h4 (by omega) (by omega)
  · by_cases cc : a = i
    · rw [cc, h2, h3 b (by omega) (by omega)]; exact hr (b - 1) (by omega) (by omega)
    · rw [h3 a (by omega) (by omega), h3 b (by omega) (by omega)]; exact hf (a - 1) (b - 1) (by omega) (by omega) (by omega)
theorem rs_ins_me {f g : Int → Int} {m i e x : Int} (hi : 0 ≤ i ∧ i ≤ m) (h1 : ∀ j, 0 ≤ j → j < i → g j = f j) (h2 : g i = e) (h3 : ∀ j, i < j → j ≤ m → g j = f (j - 1)) : rs_me g 0 (m + 1) x ↔ (x = e ∨ rs_me f 0 m x) := by
  constructor
  · rintro ⟨j, a, b, c⟩
    by_cases ca : j < i
    · exact Or.inr ⟨j, a, by omega, by rw [← h1 j a ca]; exact c⟩
    · by_cases cb : j = i
      · exact Or.inl (by rw [← c, cb, h2])
      · exact Or.inr ⟨j - 1, by omega, by omega, by rw [← h3 j (by omega) (by omega)]; exact c⟩
  · rintro (c | ⟨j, a, b, c⟩)
    · exact ⟨i, by omega, by omega, by rw [h2, c]⟩
    · by_cases ca : j < i
      · exact ⟨j, a, by omega, by rw [h1 j a ca]; exact c⟩
      · exact ⟨j + 1, by omega, by omega, by rw [h3 (j + 1) (by omega) (by omega), show j + 1 - 1 = j by omega]; exact c⟩
/-- two rows of numbers in one strict order that have the same members are one -/
theorem rs_one {R : Int → Int → Prop} (hir : ∀ a, ¬ R a a) (htr : ∀ a b c, R a b → R b c → R a c) {f g : Int → Int} {m k : Int} (hf : rs_so R f 0 m) (hg : rs_so R g 0 k) (h : ∀ x, rs_me f 0 m x ↔ rs_me g 0 k x) : ∀ (N : Nat) (i : Int), i = N → i < m → i < k ∧ f i = g i := by
  intro N
  induction N using Nat.strongRecOn with
  | ind N ih =>
    intro i hi him
    have hlt : ∀ j, 0 ≤ j → j < i → f j = g j := fun j a b => (ih j.toNat (by omega) j (by omega) (by omega)).2
    obtain ⟨j, a, b, c⟩ := (h (f i)).mp ⟨i, by omega, him, rfl⟩
    have hji : i ≤ j := by
      by_cases d : i ≤ j
      · exact d
      · have q := hf j i a (by omega) him
        rw [hlt j a (by omega), c] at q
        exact absurd q (hir _)
    refine ⟨by omega, ?_⟩
    by_cases d : j = i
    · rw [← d] at c ⊢; rw [d] at c ⊢; exact c.symm
    · have q1 := hg i j (by omega) (by omega) b
      obtain ⟨k2, a2, b2, c2⟩ := (h (g i)).mpr ⟨i, by omega, by omega, rfl⟩
      rcases Int.lt_trichotomy k2 i with d2 | d2 | d2
      · have q2 := hg k2 i a2 d2 (by omega)
        rw [← hlt k2 a2 d2, c2] at q2
        exact absurd q2 (hir _)
      · rw [← d2]; rw [d2] at c2; rw [d2]; exact c2
      · have q2 := hf i k2 (by omega) d2 b2
        rw [c2] at q2
        rw [c] at q1
        exact absurd (htr _ _ _ q1 q2) (hir _)
theorem rs_one_len {R : Int → Int → Prop} (hir : ∀ a, ¬ R a a) (htr : ∀ a b c, R a b → R b c → R a c) {f g : Int → Int} {m k : Int} (h0 : 0 ≤ m) (h1 : 0 ≤ k) (hf : rs_so R f 0 m) (hg : rs_so R g 0 k) (h : ∀ x, rs_me f 0 m x ↔ rs_me g 0 k x) : m = k ∧ ∀ i, 0 ≤ i → i < m → f i = g i := by
  have a := rs_one hir htr hf hg h
  have b := rs_one hir htr hg hf (fun x => (h x).symm)
  refine ⟨?_, fun i h2 h3 => (a i.toNat i (by omega) h3).2⟩
  by_cases c : m < k
  · have := (b m.toNat m (by omega) c).1; omega
  · by_cases d : k < m
    · have := (a k.toNat k (by omega) d).1; omega
    · omega
/-- so many different numbers below n are at most n -/
theorem rs_pig : ∀ (N m : Nat) (f : Nat → Nat), (∀ j, j < m → f j < N) → (∀ i j, i < j → j < m → ¬ f i = f j) → m ≤ N
  | 0, m, f, h, _ => by
    cases m with
    | zero => exact Nat.le_refl 0
    | succ m => exact absurd (h 0 (by omega)) (by omega)
  | N + 1, m, f, h, hi => by
    cases m with
    | zero => omega
    | succ m =>
      have q := rs_pig N m (fun j => if f j = N then f m else f j) (fun j hj => by
        show (if f j = N then f m else f j) < N
        have h1 := h j (by omega)
        have h2 := h m (by omega)
        have h3 := hi j m hj (by omega)
        split <;> omega) (fun i j hij hj => by
        show ¬ (if f i = N then f m else f i) = (if f j = N then f m else f j)
        have h1 := hi i j hij (by omega)
        have h2 := hi i m (by omega) (by omega)
        have h3 := hi j m hj (by omega)
        split <;> split <;> omega)
      omega
theorem rs_few {f : Int → Int} {m n : Int} (h0 : 0 ≤ m) (hn : 0 ≤ n) (hb : ∀ j, 0 ≤ j → j < m → 0 ≤ f j ∧ f j < n) (hd : ∀ i j, 0 ≤ i → i < j → j < m → ¬ f i = f j) : m ≤ n := by
  have q := rs_pig n.toNat m.toNat (fun j => (f j).toNat) (fun j hj => by have := hb j (by omega) (by omega); omega) (fun i j hij hj e => by
    have h1 := hb i (by omega) (by omega)
    have h2 := hb j (by omega) (by omega)
    exact hd i j (by omega) (by omega) (by omega) (by omega))
  omega
