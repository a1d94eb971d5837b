/-! rows of numbers in which one sinks to its place -/
def lo_sh (F G : Int → Int) (m k : Int) : Prop := (∀ i, 0 ≤ i → i < k → G i = F i) ∧ G k = F m ∧ ∀ i, k < i → i ≤ m → G i = F (i - 1)
theorem lo_sh_0 (F : Int → Int) (m : Int) : lo_sh F F m m := ⟨fun _ _ _ => rfl, rfl, fun i a b => absurd b (by omega)⟩
theorem lo_sh_st {F G : Int → Int} {m k : Int} (h : lo_sh F G m k) (h1 : 1 ≤ k) (h2 : k ≤ m) : lo_sh F (upI (upI G k (G (k - 1))) (k - 1) (G k)) m (k - 1) := by
  obtain ⟨a, b, c⟩ := h
  refine ⟨fun i x y => ?_, by rw [upI_self]; exact b, fun i x y => ?_⟩
  · rw [upI_ne _ _ (by omega), upI_ne _ _ (by omega)]; exact a i x (by omega)
  · rw [upI_ne _ _ (by omega)]
    by_cases e : i = k
    · rw [e, upI_self]; exact a (k - 1) (by omega) (by omega)
    · rw [upI_ne _ _ e]; exact c i (by omega) y
theorem lo_sh_ls {F1 F2 F3 G1 G2 G3 : Int → Int} {m k : Int} (h1 : lo_sh F1 G1 m k) (h2 : lo_sh F2 G2 m k) (h3 : lo_sh F3 G3 m k) (a : 0 ≤ k) (b : k ≤ m) : lo_ls G1 G2 G3 (m + 1).toNat 0 = lo_ls F1 F2 F3 k.toNat 0 ++ (F1 m, F2 m, F3 m) :: lo_ls F1 F2 F3 (m - k).toNat k := by
  rw [show (m + 1).toNat = k.toNat + ((m - k).toNat + 1) by omega, lo_ls_app]
  have e1 : lo_ls G1 G2 G3 k.toNat 0 = lo_ls F1 F2 F3 k.toNat 0 := lo_ls_cg _ _ _ (fun i hi => ⟨h1.1 _ (by omega) (by omega), h2.1 _ (by omega) (by omega), h3.1 _ (by omega) (by omega)⟩)
  have e2 : (0 : Int) + ((k.toNat : Nat) : Int) = k := by omega
  rw [e1, e2]
  show _ ++ ((G1 k, G2 k, G3 k) :: lo_ls G1 G2 G3 (m - k).toNat (k + 1)) = _
  rw [h1.2.1, h2.2.1, h3.2.1]
  have e3 : lo_ls G1 G2 G3 (m - k).toNat (k + 1) = lo_ls F1 F2 F3 (m - k).toNat k := lo_ls_cg _ _ _ (fun i hi => by
    have q : ∀ {F G : Int → Int}, lo_sh F G m k → G (k + 1 + i) = F (k + i) := fun {F G} h => by
      have := h.2.2 (k + 1 + i) (by omega) (by omega)
      rw [this, show k + 1 + (i : Int) - 1 = k + i by omega]
    exact ⟨q h1, q h2, q h3⟩)
  rw [e3]
theorem lo_so_ix {F1 F2 F3 : Int → Int} {m : Nat} (h : lo_so (lo_ls F1 F2 F3 m 0)) {i j : Int} (a : 0 ≤ i) (b : i < j) (c : j < m) : F1 i ≤ F1 j := by
  have e : lo_ls F1 F2 F3 m 0 = lo_ls F1 F2 F3 j.toNat 0 ++ lo_ls F1 F2 F3 (m - j.toNat) j := by
    have q := lo_ls_app F1 F2 F3 j.toNat (m - j.toNat) 0
    rw [show j.toNat + (m - j.toNat) = m by omega, show (0 : Int) + ((j.toNat : Nat) : Int) = j by omega] at q
    exact q
  rw [e] at h
  have q := (List.pairwise_append.mp h).2.2
  have m1 : (F1 i, F2 i, F3 i) ∈ lo_ls F1 F2 F3 j.toNat 0 := by
    have r := lo_ls_at F1 F2 F3 j.toNat 0 i.toNat (by omega)
    rw [show (0 : Int) + ((i.toNat : Nat) : Int) = i by omega] at r
    exact List.mem_of_getElem? r
  have m2 : (F1 j, F2 j, F3 j) ∈ lo_ls F1 F2 F3 (m - j.toNat) j := by
    have r := lo_ls_at F1 F2 F3 (m - j.toNat) j 0 (by omega)
    rw [show j + ((0 : Nat) : Int) = j by omega] at r
    exact List.mem_of_getElem? r
  exact q _ m1 _ m2
/-- what is gathered: B comes to A, in order -/
def lo_X (A B C : List lo_T) : Prop := ∀ L, lo_S L A → lo_S (L ++ B) C
theorem lo_X_nil (A : List lo_T) : lo_X A [] A := fun L h => by rw [List.append_nil]; exact h
theorem lo_X_app {A B C D E : List lo_T} (h : lo_X A B C) (g : lo_X C D E) : lo_X A (B ++ D) E := fun L h9 => by rw [← List.append_assoc]; exact g _ (h _ h9)
theorem lo_X_eq {A B B' C : List lo_T} (h : lo_X A B C) (e : B' = B) : lo_X A B' C := by rw [e]; exact h
theorem lo_X_in {F1 F2 F3 G1 G2 G3 : Int → Int} {m k : Int} (h1 : lo_sh F1 G1 m k) (h2 : lo_sh F2 G2 m k) (h3 : lo_sh F3 G3 m k) (a : 0 ≤ k) (b : k ≤ m) (hl : k = 0 ∨ F1 (k - 1) ≤ F1 m) (hr : ∀ i, k ≤ i → i < m → F1 m < F1 i) : lo_X (lo_ls F1 F2 F3 m.toNat 0) [(F1 m, F2 m, F3 m)] (lo_ls G1 G2 G3 (m + 1).toNat 0) := fun L h => by
  have e : lo_ls F1 F2 F3 m.toNat 0 = lo_ls F1 F2 F3 k.toNat 0 ++ lo_ls F1 F2 F3 (m - k).toNat k := by
    have q := lo_ls_app F1 F2 F3 k.toNat (m - k).toNat 0
    rw [show k.toNat + (m - k).toNat = m.toNat by omega, show (0 : Int) + ((k.toNat : Nat) : Int) = k by omega] at q
    exact q
  have hso := h.1
  rw [lo_sh_ls h1 h2 h3 a b]
  rw [e] at h
  refine lo_S_in h (fun y hy => ?_) (fun y hy => ?_)
  · obtain ⟨i, hi, rfl⟩ := lo_ls_mem hy
    show F1 (0 + i) ≤ F1 m
    rcases hl with hl | hl
    · omega
    · by_cases c : (0 : Int) + i = k - 1
      · rw [c]; exact hl
      · have := lo_so_ix hso (i := 0 + i) (j := k - 1) (by omega) (by omega) (by omega)
        omega
  · obtain ⟨i, hi, rfl⟩ := lo_ls_mem hy
    show F1 m ≤ F1 (k + i)
    have := hr (k + i) (by omega) (by omega)
    omega
/-- one more at the end of three rows -/
theorem lo_ls_add {F1 F2 F3 G1 G2 G3 : Int → Int} {m a b c : Int} (h0 : 0 ≤ m) (h1 : ∀ j, 0 ≤ j → j < m → G1 j = F1 j) (h2 : ∀ j, 0 ≤ j → j < m → G2 j = F2 j) (h3 : ∀ j, 0 ≤ j → j < m → G3 j = F3 j) (e1 : G1 m = a) (e2 : G2 m = b) (e3 : G3 m = c) : lo_ls G1 G2 G3 (m + 1).toNat 0 = lo_ls F1 F2 F3 m.toNat 0 ++ [(a, b, c)] := by
  rw [show (m + 1).toNat = m.toNat + 1 by omega, lo_ls_snoc, show (0 : Int) + ((m.toNat : Nat) : Int) = m by omega, e1, e2, e3, lo_ls_cg m.toNat 0 0 (fun i hi => ⟨h1 _ (by omega) (by omega), h2 _ (by omega) (by omega), h3 _ (by omega) (by omega)⟩)]
/-! pairs: locators -/
def lo_pl (f g : Int → Int) : Nat → Int → List (Int × Int)
  | 0, _ => []
  | m + 1, i => (f i, g i) :: lo_pl f g m (i + 1)
theorem lo_pl_len (f g : Int → Int) : ∀ (m : Nat) (i : Int), (lo_pl f g m i).length = m
  | 0, _ => rfl
  | m + 1, i => by show (lo_pl f g m (i + 1)).length + 1 = m + 1; rw [lo_pl_len f g m (i + 1)]
theorem lo_pl_snoc (f g : Int → Int) : ∀ (m : Nat) (i : Int), lo_pl f g (m + 1) i = lo_pl f g m i ++ [(f (i + m), g (i + m))]
  | 0, i => by rw [show i + ((0 : Nat) : Int) = i by omega]; rfl
  | m + 1, i => by
    show (f i, g i) :: lo_pl f g (m + 1) (i + 1) = (f i, g i) :: (lo_pl f g m (i + 1) ++ _)
    rw [lo_pl_snoc f g m (i + 1), show i + 1 + (m : Int) = i + ((m + 1 : Nat) : Int) by omega]
theorem lo_pl_cg {f g f' g' : Int → Int} : ∀ (m : Nat) (i : Int), (∀ k, i ≤ k → k < i + m → f k = f' k ∧ g k = g' k) → lo_pl f g m i = lo_pl f' g' m i
  | 0, _, _ => rfl
  | m + 1, i, h => by
    have q := h i (by omega) (by omega)
    show (f i, g i) :: lo_pl f g m (i + 1) = (f' i, g' i) :: lo_pl f' g' m (i + 1)
    rw [q.1, q.2, lo_pl_cg m (i + 1) (fun k a b => h k (by omega) (by omega))]
theorem lo_pl_at (f g : Int → Int) : ∀ (m : Nat) (i : Int) (k : Nat), k < m → (lo_pl f g m i)[k]? = some (f (i + k), g (i + k))
  | 0, _, _, h9 => absurd h9 (Nat.not_lt_zero _)
  | m + 1, i, 0, _ => by rw [show i + ((0 : Nat) : Int) = i by omega]; rfl
  | m + 1, i, k + 1, h9 => by
    have q := lo_pl_at f g m (i + 1) k (by omega)
    rw [show i + 1 + (k : Int) = i + ((k + 1 : Nat) : Int) by omega] at q
    exact q
theorem lo_pl_add {F1 F2 G1 G2 : Int → Int} {m a b : Int} (h0 : 0 ≤ m) (h1 : ∀ j, 0 ≤ j → j < m → G1 j = F1 j) (h2 : ∀ j, 0 ≤ j → j < m → G2 j = F2 j) (e1 : G1 m = a) (e2 : G2 m = b) : lo_pl G1 G2 (m + 1).toNat 0 = lo_pl F1 F2 m.toNat 0 ++ [(a, b)] := by
  rw [show (m + 1).toNat = m.toNat + 1 by omega, lo_pl_snoc, show (0 : Int) + ((m.toNat : Nat) : Int) = m by omega, e1, e2, lo_pl_cg m.toNat 0 (fun j x y => ⟨h1 j x (by omega), h2 j x (by omega)⟩)]
theorem lo_W_p {f t d : Int} (h : d = 1 ∨ 2 ≤ t - f) : lo_W (f, t, d) = [(f, t)] := if_pos h
theorem lo_W_1 {f t d : Int} (h : ¬ (d = 1 ∨ 2 ≤ t - f)) (e : t = f) : lo_W (f, t, d) = [(f, f)] := (if_neg h).trans (if_pos e)
theorem lo_W_2 {f t d : Int} (h : ¬ (d = 1 ∨ 2 ≤ t - f)) (e : ¬ t = f) : lo_W (f, t, d) = [(f, f), (t, t)] := (if_neg h).trans (if_neg e)
theorem lo_W_len (c : lo_T) : 1 ≤ (lo_W c).length ∧ (lo_W c).length ≤ 2 := by
  unfold lo_W
  split
  · exact ⟨Nat.le_of_ble_eq_true rfl, Nat.le_of_ble_eq_true rfl⟩
  · split
    · exact ⟨Nat.le_of_ble_eq_true rfl, Nat.le_of_ble_eq_true rfl⟩
    · exact ⟨Nat.le_of_ble_eq_true rfl, Nat.le_of_ble_eq_true rfl⟩
theorem lo_W_flat {c : lo_T} (h : c.2.2 = 1 ∨ c.1 = c.2.1) : (lo_W c).length = 1 := by
  unfold lo_W
  split
  · rfl
  · split
    · rfl
    · omega
/-- a page or a range as it may stand: its kind, its numbers, whether it was told as a range -/
def lo_v (x : lo_T) : Prop := (x.2.2 = 1 ∨ (x.2.2 = 0 ∧ x.1 = x.2.1)) ∧ x.1 ≤ x.2.1 ∧ 1 ≤ x.1 % 100000 ∧ x.1 / 100000 = x.2.1 / 100000 ∧ 0 ≤ x.1 ∧ x.1 < 300000 ∧ (x.2.1 < 100000 → x.2.1 ≤ 3999) ∧ (200000 ≤ x.2.1 → x.2.1 ≤ 200702)
theorem lo_ls_s {f g h : Int → Int} {k : Int} (h0 : 0 ≤ k) : lo_ls f g h (k + 1).toNat 0 = lo_ls f g h k.toNat 0 ++ [(f k, g k, h k)] := lo_ls_add h0 (fun _ _ _ => rfl) (fun _ _ _ => rfl) (fun _ _ _ => rfl) rfl rfl rfl
/-- one is added and sinks to its place -/
theorem lo_X_step {A B : List lo_T} {G1 G2 G3 P1 P2 P3 H1 H2 H3 : Int → Int} {y k9 a b c : Int} (hX : lo_X A B (lo_ls G1 G2 G3 y.toNat 0)) (h0 : 0 ≤ y) (g1 : ∀ j, 0 ≤ j → j < y → P1 j = G1 j) (g2 : ∀ j, 0 ≤ j → j < y → P2 j = G2 j) (g3 : ∀ j, 0 ≤ j → j < y → P3 j = G3 j) (e1 : P1 y = a) (e2 : P2 y = b) (e3 : P3 y = c) (k1 : 0 ≤ k9) (k2 : k9 ≤ y) (s1 : lo_sh P1 H1 y k9) (s2 : lo_sh P2 H2 y k9) (s3 : lo_sh P3 H3 y k9) (hl : k9 = 0 ∨ P1 (k9 - 1) ≤ P1 y) (hr : ∀ i, k9 ≤ i → i < y → P1 y < P1 i) : lo_X A (B ++ [(a, b, c)]) (lo_ls H1 H2 H3 (y + 1).toNat 0) := by
  have q := lo_X_in s1 s2 s3 k1 k2 hl hr
  rw [e1, e2, e3, lo_ls_cg (f' := G1) (g' := G2) (h' := G3) y.toNat 0 0 (fun i hi => ⟨g1 _ (by omega) (by omega), g2 _ (by omega) (by omega), g3 _ (by omega) (by omega)⟩)] at q
  exact lo_X_app hX q
