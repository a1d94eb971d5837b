/-! joining, place by place -/
def lo_Wz (f t d : Int) : List (Int × Int) := if f = 0 then [] else lo_W (f, t, d)
theorem lo_Wz_0 {f t d : Int} (h : f = 0) : lo_Wz f t d = [] := if_pos h
theorem lo_Wz_1 {f t d : Int} (h : ¬ f = 0) : lo_Wz f t d = lo_W (f, t, d) := if_neg h
theorem lo_Wz_len (f t d : Int) : (lo_Wz f t d).length ≤ 2 := by
  unfold lo_Wz
  split
  · exact Nat.zero_le _
  · exact (lo_W_len _).2
theorem lo_pl_ad {L z z' z2 z2' z3 z3' a b c : Int} {F F' F2 F2' F3 F3' : Int → Int} (h1 : iAdd L z F z' F' a) (h2 : iAdd L z2 F2 z2' F2' b) (h3 : iAdd L z3 F3 z3' F3' c) (h0 : 0 ≤ z) (hl : z < L) (e2 : z = z2) (e3 : z2 = z3) : lo_pl F' F2' z'.toNat 0 = lo_pl F F2 z.toNat 0 ++ [(a, b)] ∧ z' = z + 1 ∧ z2' = z + 1 ∧ z3' = z + 1 := by
  subst e2
  subst e3
  obtain ⟨w1, k1⟩ := h1
  obtain ⟨w2, k2⟩ := h2
  obtain ⟨w3, k3⟩ := h3
  rcases w1 with ⟨a1, -⟩ | ⟨a1, a2, a3⟩
  · omega
  rcases w2 with ⟨b1, -⟩ | ⟨b1, b2, b3⟩
  · omega
  rcases w3 with ⟨c1, -⟩ | ⟨c1, c2, c3⟩
  · omega
  refine ⟨?_, a2, b2, c2⟩
  rw [a2]
  exact lo_pl_add h0 k1 k2 a3 b3
theorem lo_tl {f g h : Int → Int} {n k : Int} (h0 : 0 ≤ k) (h1 : k < n) : lo_ls f g h (n - k).toNat k = (f k, g k, h k) :: lo_ls f g h (n - (k + 1)).toNat (k + 1) := by
  rw [show (n - k).toNat = (n - (k + 1)).toNat + 1 by omega]
  rfl
/-- k are joined: what is written out is E's, the one at hand is (fv, tv, bv) -/
def lo_I (f g h : Int → Int) (n k fv tv bv : Int) (PL : List (Int × Int)) : Prop := (k = 0 ∧ fv = 0 ∧ PL = []) ∨ (1 ≤ k ∧ ¬ fv = 0 ∧ ∃ E, lo_J (lo_ls f g h n.toNat 0) = E ++ lo_go (fv, tv, bv) (lo_ls f g h (n - k).toNat k) ∧ PL = lo_L E ∧ ((PL.length + (lo_W (fv, tv, bv)).length : Nat) : Int) ≤ k)
theorem lo_I_0 (f g h : Int → Int) (n tv bv : Int) : lo_I f g h n 0 0 tv bv [] := Or.inl ⟨rfl, rfl, rfl⟩
theorem lo_I_in {f g h : Int → Int} {n k fv tv bv : Int} {PL : List (Int × Int)} (hI : lo_I f g h n k fv tv bv PL) (h1 : 1 ≤ k) (h2 : k < n) (hj : f k ≤ tv + 1) : lo_I f g h n (k + 1) fv (lo_mx tv (g k)) (lo_or bv (h k)) PL := by
  rcases hI with ⟨a, -⟩ | ⟨a, b, E, c, d, e⟩
  · omega
  refine Or.inr ⟨by omega, b, E, ?_, d, ?_⟩
  · rw [c, lo_tl (by omega) h2, lo_go_in (show (f k, g k, h k).1 ≤ (fv, tv, bv).2.1 + 1 from hj)]
    rfl
  · have q1 := (lo_W_len (fv, tv, bv)).1
    have q2 := (lo_W_len (fv, lo_mx tv (g k), lo_or bv (h k))).2
    omega
theorem lo_I_out {f g h : Int → Int} {n k fv tv bv : Int} {PL : List (Int × Int)} (hI : lo_I f g h n k fv tv bv PL) (h0 : 0 ≤ k) (h2 : k < n) (hj : k = 0 ∨ ¬ f k ≤ tv + 1) (hv : lo_v (f k, g k, h k)) : lo_I f g h n (k + 1) (f k) (g k) (h k) (PL ++ lo_Wz fv tv bv) := by
  have hf : (lo_W (f k, g k, h k)).length = 1 := lo_W_flat (by
    rcases hv.1 with q | q
    · exact Or.inl q
    · exact Or.inr q.2)
  have hn : ¬ f k = 0 := fun e9 => by
    have q : 1 ≤ f k % 100000 := hv.2.2.1
    rw [e9] at q
    omega
  rcases hI with ⟨a, b, c⟩ | ⟨a, b, E, c, d, e⟩
  · subst a
    refine Or.inr ⟨by omega, hn, [], ?_, ?_, ?_⟩
    · have q := lo_tl (f := f) (g := g) (h := h) (n := n) (k := 0) (by omega) h2
      rw [show n - 0 = n by omega] at q
      rw [q]
      rfl
    · rw [c, lo_Wz_0 b]; rfl
    · rw [c, lo_Wz_0 b, hf]; decide
  · have hj2 : ¬ f k ≤ tv + 1 := hj.resolve_left (by omega)
    refine Or.inr ⟨by omega, hn, E ++ [(fv, tv, bv)], ?_, ?_, ?_⟩
    · rw [c, lo_tl (by omega) h2, lo_go_out (show ¬ (f k, g k, h k).1 ≤ (fv, tv, bv).2.1 + 1 from hj2), List.append_assoc]
      rfl
    · rw [lo_Wz_1 b, lo_L_app, d]
      show _ = lo_L E ++ (lo_W (fv, tv, bv) ++ [])
      rw [List.append_nil]
    · rw [lo_Wz_1 b, hf, List.length_append]
      omega
theorem lo_I_end {f g h : Int → Int} {n k fv tv bv : Int} {PL : List (Int × Int)} (hI : lo_I f g h n k fv tv bv PL) (h0 : 0 ≤ n) (hk : k = n) : PL ++ lo_Wz fv tv bv = lo_L (lo_J (lo_ls f g h n.toNat 0)) := by
  subst hk
  rcases hI with ⟨a, b, c⟩ | ⟨a, b, E, c, d, e⟩
  · rw [c, lo_Wz_0 b, a]; rfl
  · rw [c, lo_Wz_1 b, d, show (k - k).toNat = 0 by omega]
    show _ = lo_L (E ++ [(fv, tv, bv)])
    rw [lo_L_app]
    show _ = lo_L E ++ (lo_W (fv, tv, bv) ++ [])
    rw [List.append_nil]
theorem lo_I_len {f g h : Int → Int} {n k fv tv bv : Int} {PL : List (Int × Int)} (hI : lo_I f g h n k fv tv bv PL) (h0 : 0 ≤ k) : ((PL.length : Nat) : Int) ≤ k := by
  rcases hI with ⟨a, b, c⟩ | ⟨a, b, E, c, d, e⟩
  · rw [c]; exact h0
  · omega
/-! what the entries of a row tell -/
def lo_row (s : Int → Int) (P : Int → List lo_T) (r : Int) : Nat → List lo_T
  | 0 => []
  | m + 1 => lo_row s P r m ++ (if s m = r then P m else [])
theorem lo_row_s {s : Int → Int} {P : Int → List lo_T} {r k : Int} (h : 0 ≤ k) (e : s k = r) : lo_row s P r (k + 1).toNat = lo_row s P r k.toNat ++ P k := by
  rw [show (k + 1).toNat = k.toNat + 1 by omega]
  show lo_row s P r k.toNat ++ (if s ((k.toNat : Nat) : Int) = r then P ((k.toNat : Nat) : Int) else []) = _
  rw [show ((k.toNat : Nat) : Int) = k by omega, if_pos e]
theorem lo_row_n {s : Int → Int} {P : Int → List lo_T} {r k : Int} (h : 0 ≤ k) (e : ¬ s k = r) : lo_row s P r (k + 1).toNat = lo_row s P r k.toNat := by
  rw [show (k + 1).toNat = k.toNat + 1 by omega]
  show lo_row s P r k.toNat ++ (if s ((k.toNat : Nat) : Int) = r then P ((k.toNat : Nat) : Int) else []) = _
  rw [show ((k.toNat : Nat) : Int) = k by omega, if_neg e, List.append_nil]
theorem lo_row_perm {s t : Int → Int} {P Q : Int → List lo_T} {r : Int} : ∀ (m : Nat), (∀ e : Int, 0 ≤ e → e < m → s e = t e ∧ (P e).Perm (Q e)) → (lo_row s P r m).Perm (lo_row t Q r m)
  | 0, _ => List.Perm.nil
  | m + 1, h => by
    have q := h m (by omega) (by omega)
    show (lo_row s P r m ++ (if s m = r then P m else [])).Perm (lo_row t Q r m ++ (if t m = r then Q m else []))
    refine List.Perm.append (lo_row_perm m (fun e a b => h e a (by omega))) ?_
    rw [q.1]
    split
    · exact q.2
    · exact List.Perm.nil
theorem lo_row_all {s : Int → Int} {P : Int → List lo_T} {r : Int} {V : lo_T → Prop} : ∀ (m : Nat), (∀ e : Int, 0 ≤ e → e < m → ∀ x, x ∈ P e → V x) → ∀ x, x ∈ lo_row s P r m → V x
  | 0, _, x, hx => absurd hx List.not_mem_nil
  | m + 1, h, x, hx => by
    have hx' : x ∈ lo_row s P r m ++ (if s m = r then P m else []) := hx
    rcases List.mem_append.mp hx' with q | q
    · exact lo_row_all m (fun e a b => h e a (by omega)) x q
    · split at q
      · exact h m (by omega) (by omega) x q
      · exact absurd q List.not_mem_nil
/-- an entry's pages, as the class has them -/
def lo_P (Ez : Nat → Nat → Int) (EF : Nat → Nat → Int → Int) (e : Int) : List lo_T := lo_ls (EF ((e + 1).toNat) 4) (EF ((e + 1).toNat) 5) (EF ((e + 1).toNat) 6) (Ez ((e + 1).toNat) 4).toNat 0
/-- they stand as they may -/
def lo_H (n : Int) (Ez : Nat → Nat → Int) (EF : Nat → Nat → Int → Int) : Prop := ∀ e, 0 ≤ e → e < n → (Ez ((e + 1).toNat) 4 = Ez ((e + 1).toNat) 5 ∧ Ez ((e + 1).toNat) 5 = Ez ((e + 1).toNat) 6) ∧ ∀ x, x ∈ lo_P Ez EF e → lo_v x
/-- the locators of the row r stand in PL -/
def lo_Q (n : Int) (s : Int → Int) (Ez : Nat → Nat → Int) (EF : Nat → Nat → Int → Int) (r : Int) (PL : List (Int × Int)) : Prop := ∃ M, lo_S (lo_row s (lo_P Ez EF) r n.toNat) M ∧ PL = lo_L (lo_J M)
