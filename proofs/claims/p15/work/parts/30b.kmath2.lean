/-! keys by numbers that a walk has: bd whether a break is due, zv how many numbers are written -/
def kf_kI (f : Int → Int) (n dg wd k bd zv : Int) : List Int := kf_kk f n dg wd (n - k).toNat k (decide (bd = 1)) (decide (0 < zv))
theorem kf_kk_ne {f : Int → Int} {n dg wd : Int} {m : Nat} {k : Int} {b ne ne' : Bool} (h : ¬ (kf_kl (f k) = 0 ∧ ¬ kf_kd (f k))) : kf_kk f n dg wd (m + 1) k b ne = kf_kk f n dg wd (m + 1) k b ne' := by
  show (if kf_kl (f k) = 0 ∧ ¬ kf_kd (f k) then _ else _) = (if kf_kl (f k) = 0 ∧ ¬ kf_kd (f k) then _ else _)
  rw [if_neg h, if_neg h]
theorem kf_kI_sep (f : Int → Int) (n dg wd k bd zv b : Int) (h0 : k < n) (h : kf_kl (f k) = 0 ∧ ¬ kf_kd (f k)) (hb : b = 1 ↔ (wd = 1 ∧ 0 < zv)) : kf_kI f n dg wd k bd zv = kf_kI f n dg wd (k + 1) b zv := kf_kk_sep1 h0 h hb
theorem d01 : decide ((0 : Int) = 1) = false := rfl
theorem kf_kI_brk (f : Int → Int) (n dg wd k bd zv : Int) (h0 : k < n) (h : ¬ (kf_kl (f k) = 0 ∧ ¬ kf_kd (f k))) (hb : bd = 1) : kf_kI f n dg wd k bd zv = 1 :: kf_kI f n dg wd k 0 zv := by
  unfold kf_kI
  rw [decide_eq_true hb, kf_kk_brk1 h0 h, d01]
theorem kf_kI_zv (f : Int → Int) (n dg wd k bd zv zw : Int) (h0 : k < n) (h : ¬ (kf_kl (f k) = 0 ∧ ¬ kf_kd (f k))) : kf_kI f n dg wd k bd zv = kf_kI f n dg wd k bd zw := by
  unfold kf_kI
  rw [show (n - k).toNat = (n - (k + 1)).toNat + 1 by omega]
  exact kf_kk_ne h
theorem kf_kI_let (f : Int → Int) (n dg wd k bd zv zw : Int) (h0 : k < n) (h : ¬ kf_kl (f k) = 0) (hb : bd = 0) (hz : 0 < zw) : kf_kI f n dg wd k bd zv = kf_kl (f k) :: kf_kI f n dg wd (k + 1) 0 zw := by
  unfold kf_kI
  rw [decide_eq_false (show ¬ bd = 1 by omega), kf_kk_let1 h0 h, d01, decide_eq_true hz]
theorem kf_kI_one (f : Int → Int) (n dg wd k bd zv zw : Int) (h0 : k < n) (h : kf_kd (f k)) (hd : dg = 0) (hb : bd = 0) (hz : 0 < zw) : kf_kI f n dg wd k bd zv = kf_kn f k (k + 1) ++ kf_kI f n dg wd (k + 1) 0 zw := by
  unfold kf_kI
  rw [decide_eq_false (show ¬ bd = 1 by omega), kf_kk_one1 h0 h hd, d01, decide_eq_true hz]
theorem kf_kI_mid (f : Int → Int) (n dg wd k bd zv zw : Int) (h0 : k < n) (h : kf_kd (f k)) (hd : ¬ dg = 0) (hp : 0 < k ∧ kf_kd (f (k - 1))) (hb : bd = 0) (hz : 0 < zw) : kf_kI f n dg wd k bd zv = kf_kI f n dg wd (k + 1) 0 zw := by
  unfold kf_kI
  rw [decide_eq_false (show ¬ bd = 1 by omega), kf_kk_mid1 h0 h hd hp, d01, decide_eq_true hz]
theorem kf_kI_num (f : Int → Int) (n dg wd k bd zv zw : Int) (h0 : k < n) (h : kf_kd (f k)) (hd : ¬ dg = 0) (hp : ¬ (0 < k ∧ kf_kd (f (k - 1)))) (hb : bd = 0) (hz : 0 < zw) : kf_kI f n dg wd k bd zv = kf_kn f k (kf_ke f n (n - k).toNat k) ++ kf_kI f n dg wd (k + 1) 0 zw := by
  unfold kf_kI
  rw [decide_eq_false (show ¬ bd = 1 by omega), kf_kk_num1 h0 h hd hp, d01, decide_eq_true hz]
theorem kf_kI_whole (f : Int → Int) (n dg wd k bd zv zw : Int) (hk : 0 ≤ k) (h0 : k < n) (h : kf_kd (f k)) (hd : ¬ dg = 0) (hp : ¬ (0 < k ∧ kf_kd (f (k - 1)))) (hb : bd = 0) (hz : 0 < zw) : kf_kI f n dg wd k bd zv = kf_kn f k (kf_ke f n (n - k).toNat k) ++ kf_kI f n dg wd (kf_ke f n (n - k).toNat k) 0 zw := by
  unfold kf_kI
  rw [decide_eq_false (show ¬ bd = 1 by omega), kf_kk_whole hk h0 h hd hp, d01, decide_eq_true hz]
theorem kf_kI_end (f : Int → Int) (n dg wd k bd zv : Int) (h : n ≤ k) : kf_kI f n dg wd k bd zv = [] := by
  unfold kf_kI
  rw [show (n - k).toNat = 0 by omega]
  rfl
theorem kf_kI_len (f : Int → Int) (n dg wd : Int) (h0 : 0 ≤ n) (h : n ≤ 20) : (kf_kI f n dg wd 0 0 0).length ≤ 40 := by
  have q := kf_kk_len f n dg wd (n - 0).toNat (n - 0).toNat (Nat.le_refl _) 0 (decide ((0 : Int) = 1)) (decide ((0 : Int) < 0)) (Int.le_refl 0) (by omega)
  have e : (if (decide ((0 : Int) = 1)) = true then 1 else 0) = 0 := rfl
  rw [e] at q
  show (kf_kk f n dg wd (n - 0).toNat 0 (decide ((0 : Int) = 1)) (decide ((0 : Int) < 0))).length ≤ 40
  omega
theorem kf_kI_room {L R K : List Int} (h : L ++ R = K) (hl : K.length ≤ 40) : L.length + R.length ≤ 40 := by
  rw [← List.length_append, h]
  exact hl
theorem kf_kn_len2 (f : Int → Int) (k e : Int) : (kf_kn f k e).length = 1 + (e - kf_kz f e (e - k).toNat k).toNat := by
  show (kf_ls f (kf_kz f e (e - k).toNat k) (e - kf_kz f e (e - k).toNat k).toNat).length + 1 = _
  rw [kf_ls_len]
  omega
theorem kf_kn_pos {F : Int → Int} {z : Int} {X : List Int} {f : Int → Int} {a b : Int} (h : kf_ls F 0 z.toNat = X ++ kf_kn f a b) : 0 < z := by
  have q := congrArg List.length h
  rw [kf_ls_len, List.length_append, kf_kn_len2] at q
  omega
/-- room for a number, for a letter, for a break -/
theorem kf_kI_r1 {F : Int → Int} {z : Int} {a : Int} {R K : List Int} (h : kf_ls F 0 z.toNat ++ (a :: R) = K) (hl : K.length ≤ 40) (h0 : 0 ≤ z) : z < 40 := by
  have q := kf_kI_room h hl
  rw [kf_ls_len, List.length_cons] at q
  omega
theorem kf_kI_rn {F : Int → Int} {z : Int} {f : Int → Int} {a b : Int} {R K : List Int} (h : kf_ls F 0 z.toNat ++ (kf_kn f a b ++ R) = K) (hl : K.length ≤ 40) (h0 : 0 ≤ z) (hab : a ≤ b) : z + 1 + (b - kf_kz f b (b - a).toNat a) ≤ 40 := by
  have q := kf_kI_room h hl
  have q2 := kf_kz_bd f b (b - a).toNat a hab
  rw [kf_ls_len, List.length_append, kf_kn_len2] at q
  omega
/-! keys depend on the signs that are there alone -/
theorem kf_kz_congr {f g : Int → Int} (e : Int) : ∀ (m : Nat) (k : Int), (∀ i, k ≤ i → i < e → f i = g i) → kf_kz f e m k = kf_kz g e m k
  | 0, _, _ => rfl
  | m + 1, k, h => by
    show (if k < e ∧ f k = 48 then kf_kz f e m (k + 1) else k) = (if k < e ∧ g k = 48 then kf_kz g e m (k + 1) else k)
    by_cases c : k < e
    · rw [h k (Int.le_refl k) c, kf_kz_congr e m (k + 1) (fun i a b => h i (by omega) b)]
    · rw [if_neg (fun q => c q.1), if_neg (fun q => c q.1)]
theorem kf_ke_congr {f g : Int → Int} (n : Int) : ∀ (m : Nat) (k : Int), (∀ i, k ≤ i → i < n → f i = g i) → kf_ke f n m k = kf_ke g n m k
  | 0, _, _ => rfl
  | m + 1, k, h => by
    show (if k < n ∧ kf_kd (f k) then kf_ke f n m (k + 1) else k) = (if k < n ∧ kf_kd (g k) then kf_ke g n m (k + 1) else k)
    by_cases c : k < n
    · rw [h k (Int.le_refl k) c, kf_ke_congr n m (k + 1) (fun i a b => h i (by omega) b)]
    · rw [if_neg (fun q => c q.1), if_neg (fun q => c q.1)]
theorem kf_kn_congr {f g : Int → Int} (k e : Int) (hk : k ≤ e) (h : ∀ i, k ≤ i → i < e → f i = g i) : kf_kn f k e = kf_kn g k e := by
  unfold kf_kn
  have b := kf_kz_bd g e (e - k).toNat k hk
  rw [kf_kz_congr e (e - k).toNat k h, kf_ls_congr _ _ (fun j h1 h2 => h j (by omega) (by omega))]
theorem kf_kk_congr {f g : Int → Int} (n dg wd : Int) (h : ∀ i, 0 ≤ i → i < n → f i = g i) : ∀ (m : Nat) (k : Int) (bd ne : Bool), 0 ≤ k → k + m = n → kf_kk f n dg wd m k bd ne = kf_kk g n dg wd m k bd ne
  | 0, _, _, _, _, _ => rfl
  | m + 1, k, bd, ne, h0, hn => by
    have e0 : f k = g k := h k h0 (by omega)
    have e1 : 0 < k → f (k - 1) = g (k - 1) := fun q => h (k - 1) (by omega) (by omega)
    have en : kf_kn f k (k + 1) = kf_kn g k (k + 1) := kf_kn_congr k (k + 1) (by omega) (fun i a b => h i (by omega) (by omega))
    have ee : kf_ke f n (n - k).toNat k = kf_ke g n (n - k).toNat k := kf_ke_congr n (n - k).toNat k (fun i a b => h i (by omega) b)
    have eb := kf_ke_bd g n (n - k).toNat k (by omega)
    have ew : kf_kn f k (kf_ke g n (n - k).toNat k) = kf_kn g k (kf_ke g n (n - k).toNat k) := kf_kn_congr k _ eb.1 (fun i a b => h i (by omega) (by omega))
    have ep : (0 < k ∧ kf_kd (f (k - 1))) = (0 < k ∧ kf_kd (g (k - 1))) := by
      by_cases c : 0 < k
      · rw [e1 c]
      · exact propext ⟨fun q => absurd q.1 c, fun q => absurd q.1 c⟩
    have q1 := kf_kk_congr n dg wd h m (k + 1) (decide (wd = 1) && ne) ne (by omega) (by omega)
    have q2 := kf_kk_congr n dg wd h m (k + 1) false true (by omega) (by omega)
    unfold kf_kk
    rw [e0, q1, q2, en, ee, ew]
    by_cases c : 0 < k ∧ kf_kd (f (k - 1))
    · have c' : 0 < k ∧ kf_kd (g (k - 1)) := ep ▸ c
      rw [if_pos c, if_pos c']
    · have c' : ¬ (0 < k ∧ kf_kd (g (k - 1))) := ep ▸ c
      rw [if_neg c, if_neg c']
theorem kf_kI_congr {f g : Int → Int} (n dg wd : Int) (hn : 0 ≤ n) (h : ∀ i, 0 ≤ i → i < n → f i = g i) : kf_kI f n dg wd 0 0 0 = kf_kI g n dg wd 0 0 0 := kf_kk_congr n dg wd h (n - 0).toNat 0 _ _ (Int.le_refl 0) (by omega)
/-! units against keys -/
theorem kf_ls_shift (S f : Int → Int) (c : Int) (h : ∀ i, f i = S (c + i)) : ∀ (m : Nat) (k : Int), kf_ls S (c + k) m = kf_ls f k m
  | 0, _ => rfl
  | m + 1, k => by
    show S (c + k) :: kf_ls S (c + k + 1) m = f k :: kf_ls f (k + 1) m
    rw [h k, show c + k + 1 = c + (k + 1) by omega, kf_ls_shift S f c h m (k + 1)]
/-- no run of digits is cut at k -/
def kf_kbo (f : Int → Int) (n dg k : Int) : Prop := dg = 0 ∨ ¬ (k < n ∧ 0 < k ∧ kf_kd (f k) ∧ kf_kd (f (k - 1)))
theorem kf_eu_num {S f : Int → Int} {c a e p : Int} (h : ∀ i, f i = S (c + i)) (hz : kf_kz f e (e - a).toNat a = p) : kf_eu S 1 (c + p) (e - p) = kf_kn f a e := by
  unfold kf_eu kf_kn
  rw [if_neg (by decide), if_neg (by decide), if_neg (by decide), hz, kf_ls_shift S f c h, show 2 + (e - p) = 2 + e - p by omega]
theorem kf_lx_first (S : Int → Int) : ∀ (k w : Nat) (a b : Int) (X Y : List Int), (∀ j, 0 ≤ j → j < (k : Int) → S (a + j) = S (b + j)) → k < w → ¬ S (a + k) = S (b + k) → kf_lx (kf_ls S a w ++ X) (kf_ls S b w ++ Y) = if S (a + k) < S (b + k) then -1 else 1
  | 0, 0, _, _, _, _, _, h, _ => absurd h (by omega)
  | 0, w + 1, a, b, X, Y, _, _, h => by
    rw [show a + ((0 : Nat) : Int) = a by omega, show b + ((0 : Nat) : Int) = b by omega] at h ⊢
    exact kf_lx_ne _ _ h
  | k + 1, 0, _, _, _, _, _, h, _ => absurd h (by omega)
  | k + 1, w + 1, a, b, X, Y, h1, h2, h3 => by
    have e : S a = S b := by
      have q := h1 0 (by omega) (by omega)
      rw [show a + 0 = a by omega, show b + 0 = b by omega] at q
      exact q
    show kf_lx (S a :: (kf_ls S (a + 1) w ++ X)) (S b :: (kf_ls S (b + 1) w ++ Y)) = _
    rw [e, kf_lx_eq, kf_lx_first S k w (a + 1) (b + 1) X Y (fun j c d => by
      have q := h1 (j + 1) (by omega) (by omega)
      rw [show a + (j + 1) = a + 1 + j by omega, show b + (j + 1) = b + 1 + j by omega] at q
      exact q) (by omega) (by
      rw [show a + 1 + (k : Int) = a + ((k + 1 : Nat) : Int) by omega, show b + 1 + (k : Int) = b + ((k + 1 : Nat) : Int) by omega]
      exact h3), show a + 1 + (k : Int) = a + ((k + 1 : Nat) : Int) by omega, show b + 1 + (k : Int) = b + ((k + 1 : Nat) : Int) by omega]
theorem kf_ls_same (S : Int → Int) : ∀ (w : Nat) (a b : Int), (∀ j, 0 ≤ j → j < (w : Int) → S (a + j) = S (b + j)) → kf_ls S a w = kf_ls S b w
  | 0, _, _, _ => rfl
  | w + 1, a, b, h => by
    have e : S a = S b := by
      have q := h 0 (by omega) (by omega)
      rw [show a + 0 = a by omega, show b + 0 = b by omega] at q
      exact q
    show S a :: kf_ls S (a + 1) w = S b :: kf_ls S (b + 1) w
    rw [e, kf_ls_same S w (a + 1) (b + 1) (fun j c d => by
      have q := h (j + 1) (by omega) (by omega)
      rw [show a + (j + 1) = a + 1 + j by omega, show b + (j + 1) = b + 1 + j by omega] at q
      exact q)]
/-- how two units stand, whatever follows -/
def kf_ud (S : Int → Int) (u v w u' v' w' r : Int) : Prop := (¬ r = 0 ∧ ∀ X Y : List Int, (u = -1 → X = []) → (u' = -1 → Y = []) → kf_lx (kf_eu S u v w ++ X) (kf_eu S u' v' w' ++ Y) = r) ∨ (r = 0 ∧ u = u' ∧ kf_eu S u v w = kf_eu S u' v' w')
theorem kf_ud_lt {S : Int → Int} {u v w u' v' w' : Int} (h : kf_euk u v w) (h' : kf_euk u' v' w') (c : u < u') : kf_ud S u v w u' v' w' (-1) :=
  Or.inl ⟨by decide, fun X Y hX hY => kf_eu_lt h h' c hX⟩
theorem kf_ud_gt {S : Int → Int} {u v w u' v' w' : Int} (h : kf_euk u v w) (h' : kf_euk u' v' w') (c : u' < u) : kf_ud S u v w u' v' w' 1 :=
  Or.inl ⟨by decide, fun X Y hX hY => by rw [kf_lx_sym, kf_eu_lt h' h c hY]; rfl⟩
theorem kf_eu_2 (S : Int → Int) (v w : Int) : kf_eu S 2 v w = [v] := rfl
theorem kf_eu_1 (S : Int → Int) (v w : Int) : kf_eu S 1 v w = (2 + w) :: kf_ls S v w.toNat := rfl
theorem kf_ud_v {S : Int → Int} {u v w u' v' w' r : Int} (h : kf_euk u v w) (h' : kf_euk u' v' w') (c : u = u') (d : ¬ u = 1) (hr : (v < v' ∧ r = -1) ∨ (v' < v ∧ r = 1) ∨ (v = v' ∧ r = 0)) : kf_ud S u v w u' v' w' r := by
  subst c
  by_cases e : v = v'
  · subst e
    have er : r = 0 := by omega
    refine Or.inr ⟨er, rfl, ?_⟩
    unfold kf_eu
    by_cases c1 : u = -1
    · rw [if_pos c1, if_pos c1]
    · by_cases c2 : u = 0
      · rw [if_neg c1, if_neg c1, if_pos c2, if_pos c2]
      · have c3 : u = 2 := by unfold kf_euk at h; omega
        rw [if_neg c1, if_neg c1, if_neg c2, if_neg c2, if_pos c3, if_pos c3]
  · have c3 : u = 2 := by unfold kf_euk at h h'; omega
    subst c3
    refine Or.inl ⟨by omega, fun X Y _ _ => ?_⟩
    rw [kf_eu_2, kf_eu_2]
    show kf_lx (v :: X) (v' :: Y) = r
    rw [kf_lx_ne _ _ e]
    by_cases g : v < v'
    · rw [if_pos g]; omega
    · rw [if_neg g]; omega
theorem kf_ud_w {S : Int → Int} {v w v' w' r : Int} (hr : (w < w' ∧ r = -1) ∨ (w' < w ∧ r = 1)) : kf_ud S 1 v w 1 v' w' r := by
  refine Or.inl ⟨by omega, fun X Y _ _ => ?_⟩
  rw [kf_eu_1, kf_eu_1]
  show kf_lx ((2 + w) :: _) ((2 + w') :: _) = r
  rw [kf_lx_ne _ _ (by omega)]
  by_cases g : w < w'
  · rw [if_pos (by omega)]; omega
  · rw [if_neg (by omega)]; omega
theorem kf_ud_d {S : Int → Int} {v w v' r k : Int} (h0 : 0 ≤ k) (hk : k < w) (he : ∀ j, 0 ≤ j → j < k → S (v + j) = S (v' + j)) (hr : (S (v + k) < S (v' + k) ∧ r = -1) ∨ (S (v' + k) < S (v + k) ∧ r = 1)) : kf_ud S 1 v w 1 v' w r := by
  refine Or.inl ⟨by omega, fun X Y _ _ => ?_⟩
  rw [kf_eu_1, kf_eu_1]
  show kf_lx ((2 + w) :: (kf_ls S v w.toNat ++ X)) ((2 + w) :: (kf_ls S v' w.toNat ++ Y)) = r
  rw [kf_lx_eq, kf_lx_first S k.toNat w.toNat v v' X Y (fun j a b => he j a (by omega)) (by omega) (by rw [show ((k.toNat : Nat) : Int) = k by omega]; omega), show ((k.toNat : Nat) : Int) = k by omega]
  by_cases g : S (v + k) < S (v' + k)
  · rw [if_pos g]; omega
  · rw [if_neg g]; omega
theorem kf_ud_e {S : Int → Int} {v w v' : Int} (he : ∀ j, 0 ≤ j → j < w → S (v + j) = S (v' + j)) : kf_ud S 1 v w 1 v' w 0 := by
  refine Or.inr ⟨rfl, rfl, ?_⟩
  rw [kf_eu_1, kf_eu_1, kf_ls_same S w.toNat v v' (fun j a b => he j a (by omega))]
/-! the signs of an entry of the reference; how two entries stand -/
def kf_sg (F : Nat → Int → Int) (e : Int) : Int → Int := fun i => F 4 (20 * e + i)
def kf_srk (F : Nat → Int → Int) (e : Int) : Int → Int := fun i => kf_rk (F 4 (20 * e + i))
theorem kf_sg_fr {F G : Nat → Int → Int} (h : G 4 = F 4) (e : Int) : kf_sg G e = kf_sg F e := by unfold kf_sg; rw [h]
theorem kf_srk_fr {F G : Nat → Int → Int} (h : G 4 = F 4) (e : Int) : kf_srk G e = kf_srk F e := by unfold kf_srk; rw [h]
def kf_ky (I : Nat → Int) (F : Nat → Int → Int) (e : Int) : List Int := kf_kI (kf_sg F e) (F 5 e) (I 14) (I 15) 0 0 0
def kf_rks (F : Nat → Int → Int) (e : Int) : List Int := kf_ls (kf_srk F e) 0 (F 5 e).toNat
def kf_oc (I : Nat → Int) (F : Nat → Int → Int) (a b : Int) : Int := if kf_lx (kf_ky I F a) (kf_ky I F b) = 0 then kf_lx (kf_rks F a) (kf_rks F b) else kf_lx (kf_ky I F a) (kf_ky I F b)
def kf_mSg (F : Nat → Int → Int) (e : Int) : Prop := ∀ i, 0 ≤ i → i < F 5 e → 0 ≤ F 4 (20 * e + i) ∧ F 4 (20 * e + i) ≤ 255
theorem kf_mSg_fr {F G : Nat → Int → Int} {e : Int} (h : kf_mSg F e) (h4 : G 4 = F 4) (h5 : G 5 = F 5) : kf_mSg G e := by
  unfold kf_mSg
  rw [h4, h5]
  exact h
/-- one unit of each side is taken -/
theorem kf_ud_go {S : Int → Int} {A B A1 B1 : List Int} {u v w u' v' w' r L : Int} (hd : kf_ud S u v w u' v' w' r) (hA : A = kf_eu S u v w ++ A1) (hB : B = kf_eu S u' v' w' ++ B1) (hL : L = kf_lx A B) (hX : u = -1 → A1 = []) (hY : u' = -1 → B1 = []) : (¬ r = 0 → L = r) ∧ (r = 0 → (u = -1 → L = 0) ∧ L = kf_lx A1 B1) := by
  subst hA hB
  rcases hd with ⟨h1, h2⟩ | ⟨h1, h2, h3⟩
  · exact ⟨fun _ => hL.trans (h2 _ _ hX hY), fun h => absurd h h1⟩
  · have e : L = kf_lx A1 B1 := by rw [hL, h3, kf_lx_app]
    exact ⟨fun h => absurd h1 h, fun _ => ⟨fun hu => by rw [e, hX hu, hY (h2 ▸ hu)]; rfl, e⟩⟩
theorem kf_oc_ne {I : Nat → Int} {F : Nat → Int → Int} {a b L r : Int} (h0 : L = kf_lx (kf_ky I F a) (kf_ky I F b)) (h : L = r) (hr : ¬ r = 0) : r = kf_oc I F a b := by
  unfold kf_oc
  rw [← h0, h, if_neg hr]
theorem kf_oc_eq {I : Nat → Int} {F : Nat → Int → Int} {a b L R r : Int} (h0 : L = kf_lx (kf_ky I F a) (kf_ky I F b)) (h : L = 0) (hR : R = kf_lx (kf_rks F a) (kf_rks F b)) (h2 : R = r) : r = kf_oc I F a b := by
  unfold kf_oc
  rw [← h0, if_pos h, ← hR, h2]
/-! a sign more -/
theorem kf_sg_rng {L z z' v : Int} {F F' : Int → Int} (h : iAdd L z F z' F' v) (hs : ∀ i, 0 ≤ i → i < z → 0 ≤ F i ∧ F i ≤ 255) (hv : 0 ≤ v ∧ v ≤ 255) : ∀ i, 0 ≤ i → i < z' → 0 ≤ F' i ∧ F' i ≤ 255 := by
  obtain ⟨h1, h2⟩ := h
  intro i a b
  by_cases c : i < z
  · rw [h2 i a c]; exact hs i a c
  · rcases h1 with ⟨x, y⟩ | ⟨x, y, w⟩
    · exact absurd b (by omega)
    · have e : i = z := by omega
      rw [e, w]; exact hv
