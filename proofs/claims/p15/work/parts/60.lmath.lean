/-! places in a row: gathered by their begins, joined, written out -/
/-- begin, end, told as a range (1) or not (0) -/
abbrev lo_T := Int × Int × Int
/-- m of three rows of numbers from place i on -/
def lo_ls (f g h : Int → Int) : Nat → Int → List lo_T
  | 0, _ => []
  | m + 1, i => (f i, g i, h i) :: lo_ls f g h m (i + 1)
theorem lo_ls_app (f g h : Int → Int) : ∀ (m k : Nat) (i : Int), lo_ls f g h (m + k) i = lo_ls f g h m i ++ lo_ls f g h k (i + m)
  | 0, k, i => by rw [Nat.zero_add, show i + ((0 : Nat) : Int) = i by omega]; rfl
  | m + 1, k, i => by
    rw [show m + 1 + k = (m + k) + 1 by omega]
    show (f i, g i, h i) :: lo_ls f g h (m + k) (i + 1) = (f i, g i, h i) :: (lo_ls f g h m (i + 1) ++ _)
    rw [lo_ls_app f g h m k (i + 1), show i + 1 + (m : Int) = i + ((m + 1 : Nat) : Int) by omega]
theorem lo_ls_snoc (f g h : Int → Int) (m : Nat) (i : Int) : lo_ls f g h (m + 1) i = lo_ls f g h m i ++ [(f (i + m), g (i + m), h (i + m))] := lo_ls_app f g h m 1 i
theorem lo_ls_len (f g h : Int → Int) : ∀ (m : Nat) (i : Int), (lo_ls f g h m i).length = m
  | 0, _ => rfl
  | m + 1, i => by show (lo_ls f g h m (i + 1)).length + 1 = m + 1; rw [lo_ls_len f g h m (i + 1)]
theorem lo_ls_cg {f g h f' g' h' : Int → Int} : ∀ (m : Nat) (i j : Int), (∀ k : Nat, k < m → f (i + k) = f' (j + k) ∧ g (i + k) = g' (j + k) ∧ h (i + k) = h' (j + k)) → lo_ls f g h m i = lo_ls f' g' h' m j
  | 0, _, _, _ => rfl
  | m + 1, i, j, h9 => by
    have q := h9 0 (by omega)
    rw [show i + ((0 : Nat) : Int) = i by omega, show j + ((0 : Nat) : Int) = j by omega] at q
    show (f i, g i, h i) :: lo_ls f g h m (i + 1) = (f' j, g' j, h' j) :: lo_ls f' g' h' m (j + 1)
    rw [q.1, q.2.1, q.2.2, lo_ls_cg m (i + 1) (j + 1) (fun k hk => by
      have q2 := h9 (k + 1) (by omega)
      rw [show i + ((k + 1 : Nat) : Int) = i + 1 + (k : Int) by omega, show j + ((k + 1 : Nat) : Int) = j + 1 + (k : Int) by omega] at q2
      exact q2)]
theorem lo_ls_at (f g h : Int → Int) : ∀ (m : Nat) (i : Int) (k : Nat), k < m → (lo_ls f g h m i)[k]? = some (f (i + k), g (i + k), h (i + k))
  | 0, _, _, h9 => absurd h9 (Nat.not_lt_zero _)
  | m + 1, i, 0, _ => by rw [show i + ((0 : Nat) : Int) = i by omega]; rfl
  | m + 1, i, k + 1, h9 => by
    have q := lo_ls_at f g h m (i + 1) k (by omega)
    rw [show i + 1 + (k : Int) = i + ((k + 1 : Nat) : Int) by omega] at q
    exact q
theorem lo_ls_mem {f g h : Int → Int} {x : lo_T} : ∀ {m : Nat} {i : Int}, x ∈ lo_ls f g h m i → ∃ k : Nat, k < m ∧ x = (f (i + k), g (i + k), h (i + k))
  | 0, _, h9 => absurd h9 List.not_mem_nil
  | m + 1, i, h9 => by
    rcases List.mem_cons.mp h9 with q | q
    · exact ⟨0, by omega, by rw [q, show i + ((0 : Nat) : Int) = i by omega]⟩
    · obtain ⟨k, a, b⟩ := lo_ls_mem q
      exact ⟨k + 1, by omega, by rw [b, show i + 1 + (k : Int) = i + ((k + 1 : Nat) : Int) by omega]⟩
/-- in the order of their begins -/
def lo_so (l : List lo_T) : Prop := l.Pairwise (fun a b => a.1 ≤ b.1)
/-- each ends where it begins or behind -/
def lo_ok (l : List lo_T) : Prop := ∀ x, x ∈ l → x.1 ≤ x.2.1
/-- the row M is what L tells, in order -/
def lo_S (L M : List lo_T) : Prop := lo_so M ∧ M.Perm L
theorem lo_S_nil : lo_S [] [] := ⟨List.Pairwise.nil, List.Perm.nil⟩
theorem lo_so_mid {a b : List lo_T} {x : lo_T} (h : lo_so (a ++ b)) (h1 : ∀ y, y ∈ a → y.1 ≤ x.1) (h2 : ∀ y, y ∈ b → x.1 ≤ y.1) : lo_so (a ++ x :: b) := by
  have q := List.pairwise_append.mp h
  refine List.pairwise_append.mpr ⟨q.1, List.pairwise_cons.mpr ⟨h2, q.2.1⟩, fun u hu v hv => ?_⟩
  rcases List.mem_cons.mp hv with e | e
  · rw [e]; exact h1 u hu
  · exact q.2.2 u hu v e
/-- one more comes to its place -/
theorem lo_S_in {L a b : List lo_T} {x : lo_T} (h : lo_S L (a ++ b)) (h1 : ∀ y, y ∈ a → y.1 ≤ x.1) (h2 : ∀ y, y ∈ b → x.1 ≤ y.1) : lo_S (L ++ [x]) (a ++ x :: b) := by
  refine ⟨lo_so_mid h.1 h1 h2, ?_⟩
  have p1 : (a ++ x :: b).Perm (x :: (a ++ b)) := List.perm_middle
  have p2 : (x :: (a ++ b)).Perm (x :: L) := List.Perm.cons x h.2
  have p3 : (L ++ [x]).Perm (x :: (L ++ [])) := List.perm_middle
  rw [List.append_nil] at p3
  exact (p1.trans p2).trans p3.symm
theorem lo_S_cg {L L' M : List lo_T} (h : lo_S L M) (p : L.Perm L') : lo_S L' M := ⟨h.1, h.2.trans p⟩
/-! joining -/
def lo_or (a b : Int) : Int := if a = 1 ∨ b = 1 then 1 else 0
def lo_mx (a b : Int) : Int := if a < b then b else a
def lo_jn (c x : lo_T) : lo_T := (c.1, lo_mx c.2.1 x.2.1, lo_or c.2.2 x.2.2)
def lo_go (c : lo_T) : List lo_T → List lo_T
  | [] => [c]
  | x :: l => if x.1 ≤ c.2.1 + 1 then lo_go (lo_jn c x) l else c :: lo_go x l
def lo_J : List lo_T → List lo_T
  | [] => []
  | x :: l => lo_go x l
theorem lo_mx_le (a b : Int) : a ≤ lo_mx a b ∧ b ≤ lo_mx a b := by
  unfold lo_mx
  split <;> omega
theorem lo_mx_eq (a b : Int) : lo_mx a b = max a b := by
  unfold lo_mx
  split <;> omega
theorem lo_mx_sw (c a b : Int) : lo_mx (lo_mx c a) b = lo_mx (lo_mx c b) a := by
  rw [lo_mx_eq, lo_mx_eq, lo_mx_eq, lo_mx_eq]
  omega
theorem lo_mx_cm (a b : Int) : lo_mx a b = lo_mx b a := by
  unfold lo_mx
  split <;> split <;> omega
theorem lo_or_sw (c a b : Int) : lo_or (lo_or c a) b = lo_or (lo_or c b) a := by
  unfold lo_or
  by_cases h1 : c = 1 <;> by_cases h2 : a = 1 <;> by_cases h3 : b = 1 <;> simp [h1, h2, h3]
theorem lo_or_cm (a b : Int) : lo_or a b = lo_or b a := by
  unfold lo_or
  by_cases h2 : a = 1 <;> by_cases h3 : b = 1 <;> simp [h2, h3]
theorem lo_jn_sw (c a b : lo_T) : lo_jn (lo_jn c a) b = lo_jn (lo_jn c b) a := by
  unfold lo_jn
  show (c.1, lo_mx (lo_mx c.2.1 a.2.1) b.2.1, lo_or (lo_or c.2.2 a.2.2) b.2.2) = (c.1, lo_mx (lo_mx c.2.1 b.2.1) a.2.1, lo_or (lo_or c.2.2 b.2.2) a.2.2)
  rw [lo_mx_sw, lo_or_sw]
theorem lo_jn_cm {a b : lo_T} (h : a.1 = b.1) : lo_jn a b = lo_jn b a := by
  unfold lo_jn
  rw [h, lo_mx_cm, lo_or_cm]
theorem lo_go_in {c x : lo_T} {l : List lo_T} (h : x.1 ≤ c.2.1 + 1) : lo_go c (x :: l) = lo_go (lo_jn c x) l := if_pos h
theorem lo_go_out {c x : lo_T} {l : List lo_T} (h : ¬ x.1 ≤ c.2.1 + 1) : lo_go c (x :: l) = c :: lo_go x l := if_neg h
/-- two that begin at one place may change places -/
theorem lo_go_sw {c a b : lo_T} {l : List lo_T} (h : a.1 = b.1) (ha : a.1 ≤ a.2.1) (hb : b.1 ≤ b.2.1) : lo_go c (a :: b :: l) = lo_go c (b :: a :: l) := by
  by_cases h1 : a.1 ≤ c.2.1 + 1
  · have m1 := (lo_mx_le c.2.1 a.2.1).1
    have m2 := (lo_mx_le c.2.1 b.2.1).1
    rw [lo_go_in h1, lo_go_in (show b.1 ≤ (lo_jn c a).2.1 + 1 by show b.1 ≤ lo_mx c.2.1 a.2.1 + 1; omega), lo_go_in (show b.1 ≤ c.2.1 + 1 by omega), lo_go_in (show a.1 ≤ (lo_jn c b).2.1 + 1 by show a.1 ≤ lo_mx c.2.1 b.2.1 + 1; omega), lo_jn_sw]
  · rw [lo_go_out h1, lo_go_in (show b.1 ≤ a.2.1 + 1 by omega), lo_go_out (show ¬ b.1 ≤ c.2.1 + 1 by omega), lo_go_in (show a.1 ≤ b.2.1 + 1 by omega), lo_jn_cm h]
theorem lo_go_cg {c : lo_T} {x : lo_T} {l m : List lo_T} (h : ∀ c, lo_go c l = lo_go c m) : lo_go c (x :: l) = lo_go c (x :: m) := by
  show (if x.1 ≤ c.2.1 + 1 then lo_go (lo_jn c x) l else c :: lo_go x l) = (if x.1 ≤ c.2.1 + 1 then lo_go (lo_jn c x) m else c :: lo_go x m)
  rw [h, h]
/-- one of a row of equal begins may come to its head -/
theorem lo_go_up {x : lo_T} (hx : x.1 ≤ x.2.1) : ∀ (p q : List lo_T) (c : lo_T), (∀ y, y ∈ p → y.1 = x.1 ∧ y.1 ≤ y.2.1) → lo_go c (p ++ x :: q) = lo_go c (x :: (p ++ q))
  | [], _, _, _ => rfl
  | y :: p, q, c, h => by
    have hy := h y (List.mem_cons_self)
    have h1 : lo_go c (y :: (p ++ x :: q)) = lo_go c (y :: x :: (p ++ q)) := lo_go_cg (fun c => lo_go_up hx p q c (fun z hz => h z (List.mem_cons_of_mem _ hz)))
    show lo_go c (y :: (p ++ x :: q)) = lo_go c (x :: y :: (p ++ q))
    rw [h1, lo_go_sw hy.1 hy.2 hx]
/-- rows in order that tell the same are joined the same way -/
theorem lo_go_perm : ∀ (l m : List lo_T) (c : lo_T), lo_so l → lo_so m → lo_ok l → l.Perm m → lo_go c l = lo_go c m
  | [], m, c, _, _, _, p => by rw [List.Perm.nil_eq p]
  | x :: l, m, c, hl, hm, ho, p => by
    have hxm : x ∈ m := p.mem_iff.mp (List.mem_cons_self)
    obtain ⟨a, b, e⟩ := List.append_of_mem hxm
    subst e
    have q1 := List.pairwise_cons.mp hl
    have q2 := List.pairwise_append.mp hm
    have p2 : l.Perm (a ++ b) := List.Perm.cons_inv (p.trans List.perm_middle)
    have ha : ∀ y, y ∈ a → y.1 = x.1 ∧ y.1 ≤ y.2.1 := fun y hy => by
      have r1 : y.1 ≤ x.1 := q2.2.2 y hy x (List.mem_cons_self)
      have r2 : y ∈ l := p2.mem_iff.mpr (List.mem_append.mpr (Or.inl hy))
      have r3 := q1.1 y r2
      exact ⟨by omega, ho y (List.mem_cons_of_mem _ r2)⟩
    rw [lo_go_up (ho x List.mem_cons_self) a b c ha]
    refine lo_go_cg (fun c => lo_go_perm l (a ++ b) c q1.2 ?_ (fun y hy => ho y (List.mem_cons_of_mem _ hy)) p2)
    exact List.pairwise_append.mpr ⟨q2.1, (List.pairwise_cons.mp q2.2.1).2, fun u hu v hv => q2.2.2 u hu v (List.mem_cons_of_mem _ hv)⟩
/-- the first of all: a begin that joins nothing before it -/
theorem lo_J_go {x : lo_T} {l : List lo_T} : lo_J (x :: l) = lo_go x l := rfl
theorem lo_J_perm {l m : List lo_T} (hl : lo_so l) (hm : lo_so m) (ho : lo_ok l) (p : l.Perm m) : lo_J l = lo_J m := by
  cases l with
  | nil => rw [List.Perm.nil_eq p]
  | cons x l =>
    have hxm : x ∈ m := p.mem_iff.mp (List.mem_cons_self)
    cases m with
    | nil => exact absurd hxm List.not_mem_nil
    | cons y m =>
      have hx := ho x List.mem_cons_self
      have hy := ho y (p.mem_iff.mpr List.mem_cons_self)
      have c1 : x.1 = y.1 := by
        have a1 : x.1 ≤ y.1 := by
          rcases List.mem_cons.mp (p.mem_iff.mpr (List.mem_cons_self : y ∈ y :: m)) with e | e
          · rw [e]; exact Int.le_refl _
          · exact (List.pairwise_cons.mp hl).1 y e
        have a2 : y.1 ≤ x.1 := by
          rcases List.mem_cons.mp hxm with e | e
          · rw [e]; exact Int.le_refl _
          · exact (List.pairwise_cons.mp hm).1 x e
        omega
      have q := lo_go_perm (x :: l) (y :: m) (x.1 - 3, x.1 - 3, 0) hl hm ho p
      rw [lo_go_out (show ¬ x.1 ≤ x.1 - 3 + 1 by omega), lo_go_out (show ¬ y.1 ≤ x.1 - 3 + 1 by omega)] at q
      exact (List.cons.inj q).2
/-! locators: what is joined, written out -/
def lo_W (c : lo_T) : List (Int × Int) := if c.2.2 = 1 ∨ 2 ≤ c.2.1 - c.1 then [(c.1, c.2.1)] else if c.2.1 = c.1 then [(c.1, c.1)] else [(c.1, c.1), (c.2.1, c.2.1)]
def lo_L : List lo_T → List (Int × Int)
  | [] => []
  | c :: l => lo_W c ++ lo_L l
theorem lo_L_app : ∀ (l m : List lo_T), lo_L (l ++ m) = lo_L l ++ lo_L m
  | [], _ => rfl
  | c :: l, m => by show lo_W c ++ lo_L (l ++ m) = (lo_W c ++ lo_L l) ++ lo_L m; rw [lo_L_app l m, List.append_assoc]
