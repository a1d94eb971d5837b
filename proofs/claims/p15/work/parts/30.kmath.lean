/-! keys: what a row of signs is written as; lists in rows of numbers -/
abbrev kf_kd (c : Int) : Prop := 48 ≤ c ∧ c ≤ 57
def kf_kl (c : Int) : Int := if 97 ≤ c % 128 ∧ c % 128 ≤ 122 then c % 128 else if 65 ≤ c % 128 ∧ c % 128 ≤ 90 then c % 128 + 32 else 0
theorem kf_kl_bd (c : Int) : kf_kl c = 0 ∨ (97 ≤ kf_kl c ∧ kf_kl c ≤ 122) := by
  unfold kf_kl
  split
  · omega
  · split <;> omega
theorem kf_kl_kd {c : Int} (h : kf_kd c) : kf_kl c = 0 := by
  unfold kf_kl
  rw [if_neg (by omega), if_neg (by omega)]
def kf_ls (F : Int → Int) : Int → Nat → List Int
  | _, 0 => []
  | k, m + 1 => F k :: kf_ls F (k + 1) m
theorem kf_ls_len (F : Int → Int) : ∀ (m : Nat) (k : Int), (kf_ls F k m).length = m
  | 0, _ => rfl
  | m + 1, k => by
    show (kf_ls F (k + 1) m).length + 1 = m + 1
    rw [kf_ls_len F m (k + 1)]
theorem kf_ls_app (F : Int → Int) : ∀ (m : Nat) (k : Int), kf_ls F k (m + 1) = kf_ls F k m ++ [F (k + m)]
  | 0, k => by
    show [F k] = [F (k + (0 : Nat))]
    rw [show k + ((0 : Nat) : Int) = k by omega]
  | m + 1, k => by
    show F k :: kf_ls F (k + 1) (m + 1) = (F k :: kf_ls F (k + 1) m) ++ [F (k + ((m + 1 : Nat) : Int))]
    rw [kf_ls_app F m (k + 1), show k + 1 + (m : Int) = k + ((m + 1 : Nat) : Int) by omega]
    rfl
theorem kf_ls_congr {F G : Int → Int} : ∀ (m : Nat) (k : Int), (∀ j, k ≤ j → j < k + m → F j = G j) → kf_ls F k m = kf_ls G k m
  | 0, _, _ => rfl
  | m + 1, k, h => by
    show F k :: kf_ls F (k + 1) m = G k :: kf_ls G (k + 1) m
    rw [h k (Int.le_refl k) (by omega), kf_ls_congr m (k + 1) (fun j h1 h2 => h j (by omega) (by omega))]
def kf_lx : List Int → List Int → Int
  | [], [] => 0
  | [], _ :: _ => -1
  | _ :: _, [] => 1
  | a :: x, b :: y => if a = b then kf_lx x y else if a < b then -1 else 1
theorem kf_lx_bd : ∀ x y : List Int, -1 ≤ kf_lx x y ∧ kf_lx x y ≤ 1
  | [], [] => by show (-1 : Int) ≤ 0 ∧ (0 : Int) ≤ 1; omega
  | [], _ :: _ => by show (-1 : Int) ≤ -1 ∧ (-1 : Int) ≤ 1; omega
  | _ :: _, [] => by show (-1 : Int) ≤ 1 ∧ (1 : Int) ≤ 1; omega
  | a :: x, b :: y => by
    show -1 ≤ (if a = b then kf_lx x y else if a < b then -1 else 1) ∧ (if a = b then kf_lx x y else if a < b then -1 else 1) ≤ 1
    split
    · exact kf_lx_bd x y
    · split <;> omega
theorem kf_lx_app : ∀ u x y : List Int, kf_lx (u ++ x) (u ++ y) = kf_lx x y
  | [], _, _ => rfl
  | a :: u, x, y => by
    show (if a = a then kf_lx (u ++ x) (u ++ y) else if a < a then -1 else 1) = kf_lx x y
    rw [if_pos rfl]
    exact kf_lx_app u x y
theorem kf_lx_ne {a b : Int} (x y : List Int) (h : ¬ a = b) : kf_lx (a :: x) (b :: y) = if a < b then -1 else 1 := if_neg h
theorem kf_lx_eq (a : Int) (x y : List Int) : kf_lx (a :: x) (a :: y) = kf_lx x y := if_pos rfl
/-- two rows of numbers, from k on -/
theorem kf_lx_step {F G : Int → Int} {k z w : Int} (h1 : k < z) (h2 : k < w) : kf_lx (kf_ls F k (z - k).toNat) (kf_ls G k (w - k).toNat) = if F k = G k then kf_lx (kf_ls F (k + 1) (z - (k + 1)).toNat) (kf_ls G (k + 1) (w - (k + 1)).toNat) else if F k < G k then -1 else 1 := by
  rw [show (z - k).toNat = (z - (k + 1)).toNat + 1 by omega, show (w - k).toNat = (w - (k + 1)).toNat + 1 by omega]
  rfl
theorem kf_lx_end {F G : Int → Int} {k z w : Int} (h0 : k ≤ z) (h1 : k ≤ w) (h2 : k = z ∨ k = w) : kf_lx (kf_ls F k (z - k).toNat) (kf_ls G k (w - k).toNat) = if z = w then 0 else if z < w then -1 else 1 := by
  by_cases c : z = w
  · rw [if_pos c, show (z - k).toNat = 0 by omega, show (w - k).toNat = 0 by omega]
    rfl
  · rw [if_neg c]
    by_cases d : z < w
    · rw [if_pos d, show (z - k).toNat = 0 by omega, show (w - k).toNat = (w - (k + 1)).toNat + 1 by omega]
      rfl
    · rw [if_neg d, show (w - k).toNat = 0 by omega, show (z - k).toNat = (z - (k + 1)).toNat + 1 by omega]
      rfl
/-! keys -/
def kf_kz (f : Int → Int) (e : Int) : Nat → Int → Int
  | 0, k => k
  | m + 1, k => if k < e ∧ f k = 48 then kf_kz f e m (k + 1) else k
def kf_ke (f : Int → Int) (n : Int) : Nat → Int → Int
  | 0, k => k
  | m + 1, k => if k < n ∧ kf_kd (f k) then kf_ke f n m (k + 1) else k
def kf_kn (f : Int → Int) (k e : Int) : List Int := (2 + e - kf_kz f e (e - k).toNat k) :: kf_ls f (kf_kz f e (e - k).toNat k) (e - kf_kz f e (e - k).toNat k).toNat
def kf_kk (f : Int → Int) (n dg wd : Int) : Nat → Int → Bool → Bool → List Int
  | 0, _, _, _ => []
  | m + 1, k, bd, ne =>
    if kf_kl (f k) = 0 ∧ ¬ kf_kd (f k) then kf_kk f n dg wd m (k + 1) (decide (wd = 1) && ne) ne
    else (if bd then [1] else []) ++ ((if ¬ kf_kl (f k) = 0 then [kf_kl (f k)] else if dg = 0 then kf_kn f k (k + 1) else if 0 < k ∧ kf_kd (f (k - 1)) then [] else kf_kn f k (kf_ke f n (n - k).toNat k)) ++ kf_kk f n dg wd m (k + 1) false true)
theorem kf_kz_bd (f : Int → Int) (e : Int) : ∀ (m : Nat) (k : Int), k ≤ e → k ≤ kf_kz f e m k ∧ kf_kz f e m k ≤ e
  | 0, k, h => ⟨Int.le_refl k, h⟩
  | m + 1, k, h => by
    show k ≤ (if k < e ∧ f k = 48 then kf_kz f e m (k + 1) else k) ∧ (if k < e ∧ f k = 48 then kf_kz f e m (k + 1) else k) ≤ e
    split
    · have := kf_kz_bd f e m (k + 1) (by omega)
      omega
    · omega
theorem kf_ke_bd (f : Int → Int) (n : Int) : ∀ (m : Nat) (k : Int), k ≤ n → k ≤ kf_ke f n m k ∧ kf_ke f n m k ≤ n
  | 0, k, h => ⟨Int.le_refl k, h⟩
  | m + 1, k, h => by
    show k ≤ (if k < n ∧ kf_kd (f k) then kf_ke f n m (k + 1) else k) ∧ (if k < n ∧ kf_kd (f k) then kf_ke f n m (k + 1) else k) ≤ n
    split
    · have := kf_ke_bd f n m (k + 1) (by omega)
      omega
    · omega
/-- up to the end of a run all are digits, and there it ends -/
theorem kf_ke_run (f : Int → Int) (n : Int) : ∀ (m : Nat) (k : Int), k ≤ n → (n - k).toNat ≤ m → (∀ j, k ≤ j → j < kf_ke f n m k → kf_kd (f j)) ∧ (kf_ke f n m k < n → ¬ kf_kd (f (kf_ke f n m k)))
  | 0, k, h, hm => ⟨fun j h1 h2 => absurd h2 (by show ¬ j < k; omega), fun h2 => absurd h2 (by show ¬ k < n; omega)⟩
  | m + 1, k, h, hm => by
    by_cases c : k < n ∧ kf_kd (f k)
    · have e : kf_ke f n (m + 1) k = kf_ke f n m (k + 1) := if_pos c
      rw [e]
      obtain ⟨h1, h2⟩ := kf_ke_run f n m (k + 1) (by omega) (by omega)
      refine ⟨fun j a b => ?_, h2⟩
      by_cases d : j = k
      · rw [d]; exact c.2
      · exact h1 j (by omega) b
    · have e : kf_ke f n (m + 1) k = k := if_neg c
      rw [e]
      exact ⟨fun j a b => absurd b (by omega), fun h2 h3 => c ⟨h2, h3⟩⟩
theorem kf_kk_sep {f : Int → Int} {n dg wd : Int} {m : Nat} {k : Int} {bd ne : Bool} (h : kf_kl (f k) = 0 ∧ ¬ kf_kd (f k)) : kf_kk f n dg wd (m + 1) k bd ne = kf_kk f n dg wd m (k + 1) (decide (wd = 1) && ne) ne := if_pos h
theorem kf_kk_brk {f : Int → Int} {n dg wd : Int} {m : Nat} {k : Int} {ne : Bool} (h : ¬ (kf_kl (f k) = 0 ∧ ¬ kf_kd (f k))) : kf_kk f n dg wd (m + 1) k true ne = 1 :: kf_kk f n dg wd (m + 1) k false ne := by
  show (if kf_kl (f k) = 0 ∧ ¬ kf_kd (f k) then _ else _) = 1 :: (if kf_kl (f k) = 0 ∧ ¬ kf_kd (f k) then _ else _)
  rw [if_neg h, if_neg h]
  rfl
theorem kf_kk_let {f : Int → Int} {n dg wd : Int} {m : Nat} {k : Int} {ne : Bool} (h : ¬ kf_kl (f k) = 0) : kf_kk f n dg wd (m + 1) k false ne = kf_kl (f k) :: kf_kk f n dg wd m (k + 1) false true := by
  show (if kf_kl (f k) = 0 ∧ ¬ kf_kd (f k) then _ else _) = _
  rw [if_neg (fun q => h q.1), if_pos h]
  rfl
theorem kf_kk_one {f : Int → Int} {n dg wd : Int} {m : Nat} {k : Int} {ne : Bool} (h : kf_kd (f k)) (hd : dg = 0) : kf_kk f n dg wd (m + 1) k false ne = kf_kn f k (k + 1) ++ kf_kk f n dg wd m (k + 1) false true := by
  show (if kf_kl (f k) = 0 ∧ ¬ kf_kd (f k) then _ else _) = _
  rw [if_neg (fun q => q.2 h), if_neg (show ¬ ¬ kf_kl (f k) = 0 from fun q => q (kf_kl_kd h)), if_pos hd]
  rfl
theorem kf_kk_mid {f : Int → Int} {n dg wd : Int} {m : Nat} {k : Int} {ne : Bool} (h : kf_kd (f k)) (hd : ¬ dg = 0) (hp : 0 < k ∧ kf_kd (f (k - 1))) : kf_kk f n dg wd (m + 1) k false ne = kf_kk f n dg wd m (k + 1) false true := by
  show (if kf_kl (f k) = 0 ∧ ¬ kf_kd (f k) then _ else _) = _
  rw [if_neg (fun q => q.2 h), if_neg (show ¬ ¬ kf_kl (f k) = 0 from fun q => q (kf_kl_kd h)), if_neg hd, if_pos hp]
  rfl
theorem kf_kk_num {f : Int → Int} {n dg wd : Int} {m : Nat} {k : Int} {ne : Bool} (h : kf_kd (f k)) (hd : ¬ dg = 0) (hp : ¬ (0 < k ∧ kf_kd (f (k - 1)))) : kf_kk f n dg wd (m + 1) k false ne = kf_kn f k (kf_ke f n (n - k).toNat k) ++ kf_kk f n dg wd m (k + 1) false true := by
  show (if kf_kl (f k) = 0 ∧ ¬ kf_kd (f k) then _ else _) = _
  rw [if_neg (fun q => q.2 h), if_neg (show ¬ ¬ kf_kl (f k) = 0 from fun q => q (kf_kl_kd h)), if_neg hd, if_neg hp]
  rfl
/-- within a run of digits nothing is written -/
theorem kf_kk_run {f : Int → Int} {n dg wd : Int} (hd : ¬ dg = 0) : ∀ (j : Nat) (k : Int), 0 < k → k + j ≤ n → (∀ i, k - 1 ≤ i → i < k + j → kf_kd (f i)) → kf_kk f n dg wd (n - k).toNat k false true = kf_kk f n dg wd (n - (k + j)).toNat (k + j) false true
  | 0, k, _, _, _ => by rw [show k + ((0 : Nat) : Int) = k by omega]
  | j + 1, k, h0, h1, h2 => by
    have e : (n - k).toNat = (n - (k + 1)).toNat + 1 := by omega
    rw [e, kf_kk_mid (h2 k (by omega) (by omega)) hd ⟨h0, h2 (k - 1) (by omega) (by omega)⟩, kf_kk_run hd j (k + 1) (by omega) (by omega) (fun i a b => h2 i (by omega) (by omega)), show k + 1 + (j : Int) = k + ((j + 1 : Nat) : Int) by omega]
/-- a number at a boundary: written, and on behind its run -/
theorem kf_kk_whole {f : Int → Int} {n dg wd : Int} {k : Int} {ne : Bool} (h0 : 0 ≤ k) (hk : k < n) (h : kf_kd (f k)) (hd : ¬ dg = 0) (hp : ¬ (0 < k ∧ kf_kd (f (k - 1)))) :
    kf_kk f n dg wd (n - k).toNat k false ne = kf_kn f k (kf_ke f n (n - k).toNat k) ++ kf_kk f n dg wd (n - kf_ke f n (n - k).toNat k).toNat (kf_ke f n (n - k).toNat k) false true := by
  have e : (n - k).toNat = (n - (k + 1)).toNat + 1 := by omega
  obtain ⟨b1, b2⟩ := kf_ke_bd f n (n - k).toNat k (by omega)
  obtain ⟨r1, r2⟩ := kf_ke_run f n (n - k).toNat k (by omega) (Nat.le_refl _)
  have hgt : k < kf_ke f n (n - k).toNat k := by
    by_cases c : k < kf_ke f n (n - k).toNat k
    · exact c
    · have e9 : kf_ke f n (n - k).toNat k = k := by omega
      rw [e9] at r2
      exact absurd h (r2 hk)
  generalize hE : kf_ke f n (n - k).toNat k = E at *
  rw [show kf_kk f n dg wd (n - k).toNat k false ne = kf_kn f k E ++ kf_kk f n dg wd (n - (k + 1)).toNat (k + 1) false true by rw [e, kf_kk_num h hd hp, hE]]
  congr 1
  have := kf_kk_run (f := f) (n := n) (wd := wd) hd (E - (k + 1)).toNat (k + 1) (by omega) (by omega) (fun i a b => r1 i (by omega) (by omega))
  rw [this, show k + 1 + ((E - (k + 1)).toNat : Int) = E by omega]
theorem kf_kn_len (f : Int → Int) {k e : Int} (h : k ≤ e) : (kf_kn f k e).length ≤ 1 + (e - k).toNat := by
  have hb := kf_kz_bd f e (e - k).toNat k h
  show (kf_ls f (kf_kz f e (e - k).toNat k) (e - kf_kz f e (e - k).toNat k).toNat).length + 1 ≤ _
  rw [kf_ls_len]
  omega
/-- at most two numbers a sign, and a break that is due -/
theorem kf_kk_len (f : Int → Int) (n dg wd : Int) : ∀ (M m : Nat), m ≤ M → ∀ (k : Int) (bd ne : Bool), 0 ≤ k → k + m = n → (kf_kk f n dg wd m k bd ne).length ≤ 2 * m + (if bd then 1 else 0)
  | M, 0, _, _, _, _, _, _ => Nat.zero_le _
  | 0, m + 1, hM, _, _, _, _, _ => absurd hM (by omega)
  | M + 1, m + 1, hM, k, bd, ne, h0, hn => by
    have ih := kf_kk_len f n dg wd M
    by_cases cs : kf_kl (f k) = 0 ∧ ¬ kf_kd (f k)
    · rw [kf_kk_sep cs]
      have q := ih m (by omega) (k + 1) (decide (wd = 1) && ne) ne (by omega) (by omega)
      have q2 : (if (decide (wd = 1) && ne) = true then 1 else 0) ≤ 1 := by split <;> omega
      omega
    · -- the break
      have hb : ∀ b : Bool, (kf_kk f n dg wd (m + 1) k b ne).length ≤ (kf_kk f n dg wd (m + 1) k false ne).length + (if b then 1 else 0) := by
        intro b
        cases b with
        | false => exact Nat.le_refl _
        | true => rw [kf_kk_brk cs]; exact Nat.le_refl _
      refine Nat.le_trans (hb bd) (Nat.add_le_add_right ?_ _)
      by_cases cl : kf_kl (f k) = 0
      · have hk : kf_kd (f k) := Classical.byContradiction fun q => cs ⟨cl, q⟩
        by_cases cd : dg = 0
        · rw [kf_kk_one hk cd, List.length_append]
          have q := ih m (by omega) (k + 1) false true (by omega) (by omega)
          have q2 := kf_kn_len f (k := k) (e := k + 1) (by omega)
          simp only [Bool.false_eq_true, ↓reduceIte] at q
          omega
        · by_cases cp : 0 < k ∧ kf_kd (f (k - 1))
          · rw [kf_kk_mid hk cd cp]
            have q := ih m (by omega) (k + 1) false true (by omega) (by omega)
            simp only [Bool.false_eq_true, ↓reduceIte] at q
            omega
          · have em : (n - k).toNat = m + 1 := by omega
            have hw := kf_kk_whole (n := n) (wd := wd) (ne := ne) h0 (by omega) hk cd cp
            rw [em] at hw
            obtain ⟨b1, b2⟩ := kf_ke_bd f n (m + 1) k (by omega)
            obtain ⟨r1, r2⟩ := kf_ke_run f n (m + 1) k (by omega) (by omega)
            have hgt : k < kf_ke f n (m + 1) k := by
              by_cases c : k < kf_ke f n (m + 1) k
              · exact c
              · have e9 : kf_ke f n (m + 1) k = k := by omega
                rw [e9] at r2
                exact absurd hk (r2 (by omega))
            rw [hw, List.length_append]
            generalize kf_ke f n (m + 1) k = E at *
            have q := ih (n - E).toNat (by omega) E false true (by omega) (by omega)
            have q2 := kf_kn_len f (k := k) (e := E) (by omega)
            simp only [Bool.false_eq_true, ↓reduceIte] at q
            omega
      · rw [kf_kk_let cl, List.length_cons]
        have q := ih m (by omega) (k + 1) false true (by omega) (by omega)
        simp only [Bool.false_eq_true, ↓reduceIte] at q
        omega
/-! ranks -/
def kf_rk (c : Int) : Int := 4 * (if 65 ≤ c % 128 ∧ c % 128 ≤ 90 then c % 128 + 32 else c % 128) + (if 65 ≤ c % 128 ∧ c % 128 ≤ 90 then 2 else 0) + (if c = c % 128 then 0 else 1)
theorem kf_rk_sp (c : Int) : ((65 ≤ c % 128 ∧ c % 128 ≤ 90 ∧ ((c = c % 128 ∧ kf_rk c = 4 * (c % 128 + 32) + 2) ∨ (¬ c = c % 128 ∧ kf_rk c = 4 * (c % 128 + 32) + 3))) ∨ (¬ (65 ≤ c % 128 ∧ c % 128 ≤ 90) ∧ ((c = c % 128 ∧ kf_rk c = 4 * (c % 128)) ∨ (¬ c = c % 128 ∧ kf_rk c = 4 * (c % 128) + 1)))) := by
  unfold kf_rk
  by_cases a : 65 ≤ c % 128 ∧ c % 128 ≤ 90
  · rw [if_pos a, if_pos a]
    by_cases b : c = c % 128
    · rw [if_pos b]; omega
    · rw [if_neg b]; omega
  · rw [if_neg a, if_neg a]
    by_cases b : c = c % 128
    · rw [if_pos b]; omega
    · rw [if_neg b]; omega
/-- ranks of signs differ where the signs do -/
theorem kf_rk_inj {c d : Int} (hc : 0 ≤ c ∧ c ≤ 255) (hd : 0 ≤ d ∧ d ≤ 255) : kf_rk c = kf_rk d ↔ c = d := by
  constructor
  · intro h
    rcases kf_rk_sp c with ⟨c1, c2, c3⟩ | ⟨c1, c3⟩ <;> rcases kf_rk_sp d with ⟨d1, d2, d3⟩ | ⟨d1, d3⟩ <;> omega
  · intro h
    rw [h]
/-! units: what the reference goes by; written out they are the key -/
def kf_eu (S : Int → Int) (u v w : Int) : List Int := if u = -1 then [] else if u = 0 then [1] else if u = 2 then [v] else (2 + w) :: kf_ls S v w.toNat
/-- a unit that may be met -/
def kf_euk (u v w : Int) : Prop := (u = -1 ∧ v = 0 ∧ w = 0) ∨ (u = 0 ∧ v = 0 ∧ w = 0) ∨ (u = 1 ∧ 0 ≤ w ∧ w ≤ 20) ∨ (u = 2 ∧ 97 ≤ v ∧ v ≤ 122)
theorem kf_eu_hd {S : Int → Int} {u v w : Int} (h : kf_euk u v w) : (u = -1 ∧ kf_eu S u v w = []) ∨ ∃ a t, kf_eu S u v w = a :: t ∧ ((u = 0 ∧ a = 1) ∨ (u = 1 ∧ a = 2 + w ∧ w ≤ 20 ∧ 0 ≤ w) ∨ (u = 2 ∧ a = v ∧ 97 ≤ v)) := by
  unfold kf_eu
  rcases h with ⟨rfl, -, -⟩ | ⟨rfl, -, -⟩ | ⟨rfl, h1, h2⟩ | ⟨rfl, h1, h2⟩
  · exact Or.inl ⟨rfl, rfl⟩
  · exact Or.inr ⟨1, [], rfl, Or.inl ⟨rfl, rfl⟩⟩
  · exact Or.inr ⟨2 + w, kf_ls S v w.toNat, rfl, Or.inr (Or.inl ⟨rfl, rfl, h2, h1⟩)⟩
  · exact Or.inr ⟨v, [], rfl, Or.inr (Or.inr ⟨rfl, rfl, h1⟩)⟩
/-- units of other kinds: the lesser kind's key is the lesser -/
theorem kf_eu_lt {S : Int → Int} {u v w u' v' w' : Int} (h : kf_euk u v w) (h' : kf_euk u' v' w') (hu : u < u') {X Y : List Int} (hX : u = -1 → X = []) : kf_lx (kf_eu S u v w ++ X) (kf_eu S u' v' w' ++ Y) = -1 := by
  rcases kf_eu_hd (S := S) h with ⟨a1, a2⟩ | ⟨a, t, a1, a2⟩
  · rw [a2, hX a1]
    rcases kf_eu_hd (S := S) h' with ⟨b1, b2⟩ | ⟨b, t', b1, b2⟩
    · omega
    · rw [b1]; rfl
  · rcases kf_eu_hd (S := S) h' with ⟨b1, b2⟩ | ⟨b, t', b1, b2⟩
    · omega
    · rw [a1, b1]
      show kf_lx (a :: (t ++ X)) (b :: (t' ++ Y)) = -1
      rw [kf_lx_ne _ _ (by omega), if_pos (by omega)]
theorem kf_lx_sym : ∀ x y : List Int, kf_lx y x = - kf_lx x y
  | [], [] => rfl
  | [], _ :: _ => rfl
  | _ :: _, [] => rfl
  | a :: x, b :: y => by
    show (if b = a then kf_lx y x else if b < a then -1 else 1) = -(if a = b then kf_lx x y else if a < b then -1 else 1)
    by_cases c : a = b
    · rw [if_pos c, if_pos c.symm]
      exact kf_lx_sym x y
    · rw [if_neg c, if_neg (fun q => c q.symm)]
      by_cases d : a < b
      · rw [if_pos d, if_neg (by omega)]; rfl
      · rw [if_neg d, if_pos (by omega)]
theorem kf_kl_sp (c : Int) : (97 ≤ c % 128 ∧ c % 128 ≤ 122 ∧ kf_kl c = c % 128) ∨ (65 ≤ c % 128 ∧ c % 128 ≤ 90 ∧ kf_kl c = c % 128 + 32) ∨ (¬ (97 ≤ c % 128 ∧ c % 128 ≤ 122) ∧ ¬ (65 ≤ c % 128 ∧ c % 128 ≤ 90) ∧ kf_kl c = 0) := by
  unfold kf_kl
  by_cases a : 97 ≤ c % 128 ∧ c % 128 ≤ 122
  · rw [if_pos a]; omega
  · rw [if_neg a]
    by_cases b : 65 ≤ c % 128 ∧ c % 128 ≤ 90
    · rw [if_pos b]; omega
    · rw [if_neg b]; omega
/-- a row of numbers grows by one -/
theorem kf_ls_add {L z : Int} {F : Int → Int} {z' : Int} {F' : Int → Int} {v : Int} (h0 : 0 ≤ z) (hz : z < L) (h : iAdd L z F z' F' v) : z' = z + 1 ∧ kf_ls F' 0 z'.toNat = kf_ls F 0 z.toNat ++ [v] := by
  obtain ⟨h1, h2⟩ := h
  rcases h1 with ⟨a, b⟩ | ⟨a, b, c⟩
  · omega
  · refine ⟨b, ?_⟩
    rw [b, show (z + 1).toNat = z.toNat + 1 by omega, kf_ls_app, show (0 : Int) + (z.toNat : Int) = z by omega, c]
    rw [kf_ls_congr z.toNat 0 (fun j h3 h4 => h2 j h3 (by omega))]
theorem kf_ls_at (F : Int → Int) : ∀ (m : Nat) (k : Int) (i : Nat), i < m → (kf_ls F k m)[i]? = some (F (k + i))
  | 0, _, i, h => absurd h (Nat.not_lt_zero i)
  | m + 1, k, 0, _ => by
    show some (F k) = some (F (k + ((0 : Nat) : Int)))
    rw [show k + ((0 : Nat) : Int) = k by omega]
  | m + 1, k, i + 1, h => by
    show (kf_ls F (k + 1) m)[i]? = _
    rw [kf_ls_at F m (k + 1) i (by omega), show k + 1 + (i : Int) = k + ((i + 1 : Nat) : Int) by omega]
theorem kf_ke_step {f : Int → Int} {n k : Int} (h : k < n) (hd : kf_kd (f k)) : kf_ke f n (n - k).toNat k = kf_ke f n (n - (k + 1)).toNat (k + 1) := by
  rw [show (n - k).toNat = (n - (k + 1)).toNat + 1 by omega]
  exact if_pos ⟨h, hd⟩
theorem kf_ke_stop {f : Int → Int} {n k : Int} (h : ¬ (k < n ∧ kf_kd (f k))) : kf_ke f n (n - k).toNat k = k := by
  cases hm : (n - k).toNat with
  | zero => rfl
  | succ m => exact if_neg h
theorem kf_kz_step {f : Int → Int} {e k : Int} (h : k < e) (hz : f k = 48) : kf_kz f e (e - k).toNat k = kf_kz f e (e - (k + 1)).toNat (k + 1) := by
  rw [show (e - k).toNat = (e - (k + 1)).toNat + 1 by omega]
  exact if_pos ⟨h, hz⟩
theorem kf_kz_stop {f : Int → Int} {e k : Int} (h : ¬ (k < e ∧ f k = 48)) : kf_kz f e (e - k).toNat k = k := by
  cases hm : (e - k).toNat with
  | zero => rfl
  | succ m => exact if_neg h
theorem kf_ls_snoc {F : Int → Int} {j k : Int} (h : j ≤ k) : kf_ls F j (k + 1 - j).toNat = kf_ls F j (k - j).toNat ++ [F k] := by
  rw [show (k + 1 - j).toNat = (k - j).toNat + 1 by omega, kf_ls_app, show j + ((k - j).toNat : Int) = k by omega]
/-! the same, as a walk over the signs meets it -/
theorem kf_kk_sep1 {f : Int → Int} {n dg wd k zv b : Int} {bd : Bool} (h0 : k < n) (h : kf_kl (f k) = 0 ∧ ¬ kf_kd (f k)) (hb : b = 1 ↔ (wd = 1 ∧ 0 < zv)) : kf_kk f n dg wd (n - k).toNat k bd (decide (0 < zv)) = kf_kk f n dg wd (n - (k + 1)).toNat (k + 1) (decide (b = 1)) (decide (0 < zv)) := by
  rw [show (n - k).toNat = (n - (k + 1)).toNat + 1 by omega, kf_kk_sep h]
  congr 1
  by_cases c : wd = 1 ∧ 0 < zv
  · rw [decide_eq_true c.1, decide_eq_true c.2, decide_eq_true (hb.mpr c)]; rfl
  · rw [decide_eq_false (fun q => c (hb.mp q))]
    by_cases d : wd = 1
    · rw [decide_eq_true d, decide_eq_false (fun q => c ⟨d, q⟩)]; rfl
    · rw [decide_eq_false d]; rfl
theorem kf_kk_brk1 {f : Int → Int} {n dg wd k : Int} {ne : Bool} (h0 : k < n) (h : ¬ (kf_kl (f k) = 0 ∧ ¬ kf_kd (f k))) : kf_kk f n dg wd (n - k).toNat k true ne = 1 :: kf_kk f n dg wd (n - k).toNat k false ne := by
  rw [show (n - k).toNat = (n - (k + 1)).toNat + 1 by omega]
  exact kf_kk_brk h
theorem kf_kk_let1 {f : Int → Int} {n dg wd k : Int} {ne : Bool} (h0 : k < n) (h : ¬ kf_kl (f k) = 0) : kf_kk f n dg wd (n - k).toNat k false ne = kf_kl (f k) :: kf_kk f n dg wd (n - (k + 1)).toNat (k + 1) false true := by
  rw [show (n - k).toNat = (n - (k + 1)).toNat + 1 by omega]
  exact kf_kk_let h
theorem kf_kk_one1 {f : Int → Int} {n dg wd k : Int} {ne : Bool} (h0 : k < n) (h : kf_kd (f k)) (hd : dg = 0) : kf_kk f n dg wd (n - k).toNat k false ne = kf_kn f k (k + 1) ++ kf_kk f n dg wd (n - (k + 1)).toNat (k + 1) false true := by
  rw [show (n - k).toNat = (n - (k + 1)).toNat + 1 by omega]
  exact kf_kk_one h hd
theorem kf_kk_mid1 {f : Int → Int} {n dg wd k : Int} {ne : Bool} (h0 : k < n) (h : kf_kd (f k)) (hd : ¬ dg = 0) (hp : 0 < k ∧ kf_kd (f (k - 1))) : kf_kk f n dg wd (n - k).toNat k false ne = kf_kk f n dg wd (n - (k + 1)).toNat (k + 1) false true := by
  rw [show (n - k).toNat = (n - (k + 1)).toNat + 1 by omega]
  exact kf_kk_mid h hd hp
theorem kf_kk_num1 {f : Int → Int} {n dg wd k : Int} {ne : Bool} (h0 : k < n) (h : kf_kd (f k)) (hd : ¬ dg = 0) (hp : ¬ (0 < k ∧ kf_kd (f (k - 1)))) : kf_kk f n dg wd (n - k).toNat k false ne = kf_kn f k (kf_ke f n (n - k).toNat k) ++ kf_kk f n dg wd (n - (k + 1)).toNat (k + 1) false true := by
  have e : (n - k).toNat = (n - (k + 1)).toNat + 1 := by omega
  have q := kf_kk_num (m := (n - (k + 1)).toNat) (n := n) (wd := wd) (ne := ne) h hd hp
  rw [← e] at q
  exact q
