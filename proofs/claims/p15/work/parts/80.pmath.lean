/-! paper: what is written, byte by byte -/
/-- a number as it is kept -/
def pt_b (c : Int) : Int := (vp_nar .byte (iz ((iz c).toInt8.toInt32.toInt))).toInt
def pt_l (l : List Int) : List Int := l.map pt_b
/-- a paper holds X, as far as it goes -/
def pt_h (X : List Int) (f : Int → Int) (z tl : Int) : Prop := kf_ls f 0 z.toNat = X.take 6000 ∧ (0 ≤ z ∧ z ≤ 6000) ∧ ((tl = 1 ∧ 6000 < X.length) ∨ (tl = 0 ∧ X.length ≤ 6000))
theorem pt_h_0 (f : Int → Int) : pt_h [] f 0 0 := ⟨rfl, by omega, Or.inr ⟨rfl, Nat.zero_le _⟩⟩
theorem pt_h_z {X : List Int} {f : Int → Int} {z tl : Int} (h : pt_h X f z tl) : z.toNat = min 6000 X.length := by
  have q := congrArg List.length h.1
  rw [kf_ls_len, List.length_take] at q
  exact q
theorem pt_h_over {X : List Int} {f : Int → Int} {z tl b : Int} (h : pt_h X f z tl) (hz : 6000 ≤ z) : pt_h (X ++ [b]) f z 1 := by
  have q := pt_h_z h
  have hl : 6000 ≤ X.length := by omega
  refine ⟨?_, h.2.1, Or.inl ⟨rfl, by rw [List.length_append]; show 6000 < X.length + 1; omega⟩⟩
  rw [h.1, List.take_append_of_le_length hl]
theorem pt_h_in {X : List Int} {f : Int → Int} {z tl b : Int} (h : pt_h X f z tl) (hz : z < 6000) : pt_h (X ++ [b]) (upI f z b) (z + 1) tl := by
  have q := pt_h_z h
  obtain ⟨h1, h2, h3⟩ := h
  have hl : X.length = z.toNat := by omega
  have ht : X.take 6000 = X := List.take_of_length_le (by omega)
  refine ⟨?_, by omega, ?_⟩
  · rw [kf_ls_sn (F := f) h2.1 (fun j a b => upI_ne _ _ (by omega)) (upI_self _ _ _), h1, ht, List.take_of_length_le (by rw [List.length_append]; show X.length + 1 ≤ 6000; omega)]
  · rcases h3 with ⟨a, b9⟩ | ⟨a, b9⟩
    · omega
    · exact Or.inr ⟨a, by rw [List.length_append]; show X.length + 1 ≤ 6000; omega⟩
/-- from one state of a paper to another: Y is written between -/
def pt_X (f : Int → Int) (z tl : Int) (Y : List Int) (f' : Int → Int) (z' tl' : Int) : Prop := ∀ X, pt_h X f z tl → pt_h (X ++ Y) f' z' tl'
theorem pt_X_nil (f : Int → Int) (z tl : Int) : pt_X f z tl [] f z tl := fun X h => by rw [List.append_nil]; exact h
theorem pt_X_app {f f' f2 : Int → Int} {z tl z' tl' z2 tl2 : Int} {Y W : List Int} (h : pt_X f z tl Y f' z' tl') (g : pt_X f' z' tl' W f2 z2 tl2) : pt_X f z tl (Y ++ W) f2 z2 tl2 := fun X h9 => by rw [← List.append_assoc]; exact g _ (h _ h9)
theorem pt_X_eq {f f' : Int → Int} {z tl z' tl' : Int} {Y W : List Int} (h : pt_X f z tl Y f' z' tl') (e : W = Y) : pt_X f z tl W f' z' tl' := by rw [e]; exact h
theorem pt_X_over {f : Int → Int} {z tl b : Int} (hz : 6000 ≤ z) : pt_X f z tl [b] f z 1 := fun X h => pt_h_over h hz
theorem pt_X_in {f : Int → Int} {z tl b : Int} (hz : z < 6000) : pt_X f z tl [b] (upI f z b) (z + 1) tl := fun X h => pt_h_in h hz
/-! the pieces -/
def pt_sg (f : Int → Int) (n : Int) : List Int := pt_l (kf_ls f 0 n.toNat)
/-- the sign d of a Roman number, by what stands for one, five, ten -/
def pt_rd (d o v x : Int) : List Int := if d % 5 = 4 then [o, if d = 4 then v else x] else (if 5 ≤ d then [v] else []) ++ List.replicate (d % 5).toNat o
def pt_ro (n : Int) : List Int := pt_rd (n / 1000) 109 109 109 ++ (pt_rd (n / 100 % 10) 99 100 109 ++ (pt_rd (n / 10 % 10) 120 108 99 ++ pt_rd (n % 10) 105 118 120))
def pt_nu (n : Int) : List Int := (if 10000 ≤ n then [48 + n / 10000 % 10] else []) ++ ((if 1000 ≤ n then [48 + n / 1000 % 10] else []) ++ ((if 100 ≤ n then [48 + n / 100 % 10] else []) ++ ((if 10 ≤ n then [48 + n / 10 % 10] else []) ++ (if 1 ≤ n then [48 + n / 1 % 10] else []))))
def pt_le (n : Int) : List Int := (if 26 < n then [97 + (n - 1) / 26 - 1] else []) ++ [97 + (n - 1) % 26]
def pt_pg (k n : Int) : List Int := if k = 0 then pt_ro n else if k = 1 then pt_nu n else pt_le n
/-- a locator -/
def pt_lo (y : Int × Int) : List Int := pt_pg (y.1 / 100000) (y.1 % 100000) ++ (if y.2 = y.1 then [] else 45 :: pt_pg (y.2 / 100000) (y.2 % 100000))
/-- things, with two signs between -/
def pt_bt {A : Type} (g : A → List Int) (c : Int) : List A → List Int
  | [] => []
  | y :: l => g y ++ (l.flatMap (fun w => c :: 32 :: g w))
theorem pt_bt_s {A : Type} (g : A → List Int) (c : Int) (l : List A) (y : A) : pt_bt g c (l ++ [y]) = pt_bt g c l ++ ((if l = [] then [] else [c, 32]) ++ g y) := by
  cases l with
  | nil => show g y ++ [] = [] ++ (_ ++ g y); rw [List.append_nil, List.nil_append]; rfl
  | cons x l =>
    show g x ++ ((l ++ [y]).flatMap (fun w => c :: 32 :: g w)) = (g x ++ l.flatMap (fun w => c :: 32 :: g w)) ++ _
    rw [List.flatMap_append, List.append_assoc]
    congr 2
    show (c :: 32 :: g y) ++ [] = _
    rw [List.append_nil]
    rfl
/-! Roman numbers: the greatest first, again and again -/
def pt_gr : Nat → Int → List Int
  | 0, _ => []
  | m + 1, n => if n ≤ 0 then [] else if 1000 ≤ n then 109 :: pt_gr m (n - 1000) else if 900 ≤ n then 99 :: 109 :: pt_gr m (n - 900) else if 500 ≤ n then 100 :: pt_gr m (n - 500) else if 400 ≤ n then 99 :: 100 :: pt_gr m (n - 400) else if 100 ≤ n then 99 :: pt_gr m (n - 100) else if 90 ≤ n then 120 :: 99 :: pt_gr m (n - 90) else if 50 ≤ n then 108 :: pt_gr m (n - 50) else if 40 ≤ n then 120 :: 108 :: pt_gr m (n - 40) else if 10 ≤ n then 120 :: pt_gr m (n - 10) else if n = 9 then 105 :: 120 :: pt_gr m 0 else if 5 ≤ n then 118 :: pt_gr m (n - 5) else if n = 4 then 105 :: 118 :: pt_gr m 0 else 105 :: pt_gr m (n - 1)
theorem pt_gr_s (m : Nat) (n : Int) : pt_gr (m + 1) n = if n ≤ 0 then [] else if 1000 ≤ n then 109 :: pt_gr m (n - 1000) else if 900 ≤ n then 99 :: 109 :: pt_gr m (n - 900) else if 500 ≤ n then 100 :: pt_gr m (n - 500) else if 400 ≤ n then 99 :: 100 :: pt_gr m (n - 400) else if 100 ≤ n then 99 :: pt_gr m (n - 100) else if 90 ≤ n then 120 :: 99 :: pt_gr m (n - 90) else if 50 ≤ n then 108 :: pt_gr m (n - 50) else if 40 ≤ n then 120 :: 108 :: pt_gr m (n - 40) else if 10 ≤ n then 120 :: pt_gr m (n - 10) else if n = 9 then 105 :: 120 :: pt_gr m 0 else if 5 ≤ n then 118 :: pt_gr m (n - 5) else if n = 4 then 105 :: 118 :: pt_gr m 0 else 105 :: pt_gr m (n - 1) := rfl
theorem pt_gr_0 (m : Nat) {n : Int} (h : n ≤ 0) : pt_gr m n = [] := by
  cases m with
  | zero => rfl
  | succ m => exact if_pos h
theorem pt_gr_fu : ∀ (m m' : Nat) (n : Int), n.toNat ≤ m → n.toNat ≤ m' → pt_gr m n = pt_gr m' n
  | 0, m', n, h, _ => by rw [pt_gr_0 _ (by omega), pt_gr_0 _ (by omega)]
  | m + 1, 0, n, _, h => by rw [pt_gr_0 _ (by omega), pt_gr_0 _ (by omega)]
  | m + 1, m' + 1, n, h, h' => by
    by_cases c : n ≤ 0
    · rw [pt_gr_0 _ c, pt_gr_0 _ c]
    · have e : ∀ d : Int, 1 ≤ d → pt_gr m (n - d) = pt_gr m' (n - d) := fun d hd => pt_gr_fu m m' (n - d) (by omega) (by omega)
      have e0 : pt_gr m 0 = pt_gr m' 0 := pt_gr_fu m m' 0 (by omega) (by omega)
      rw [pt_gr_s, pt_gr_s, e 1000 (by omega), e 900 (by omega), e 500 (by omega), e 400 (by omega), e 100 (by omega), e 90 (by omega), e 50 (by omega), e 40 (by omega), e 10 (by omega), e 5 (by omega), e 1 (by omega), e0]
/-- one step, with no count of steps -/
theorem pt_gr_st {n : Int} (h : 0 < n) : pt_gr n.toNat n = if 1000 ≤ n then 109 :: pt_gr (n - 1000).toNat (n - 1000) else if 900 ≤ n then 99 :: 109 :: pt_gr (n - 900).toNat (n - 900) else if 500 ≤ n then 100 :: pt_gr (n - 500).toNat (n - 500) else if 400 ≤ n then 99 :: 100 :: pt_gr (n - 400).toNat (n - 400) else if 100 ≤ n then 99 :: pt_gr (n - 100).toNat (n - 100) else if 90 ≤ n then 120 :: 99 :: pt_gr (n - 90).toNat (n - 90) else if 50 ≤ n then 108 :: pt_gr (n - 50).toNat (n - 50) else if 40 ≤ n then 120 :: 108 :: pt_gr (n - 40).toNat (n - 40) else if 10 ≤ n then 120 :: pt_gr (n - 10).toNat (n - 10) else if n = 9 then 105 :: 120 :: [] else if 5 ≤ n then 118 :: pt_gr (n - 5).toNat (n - 5) else if n = 4 then 105 :: 118 :: [] else 105 :: pt_gr (n - 1).toNat (n - 1) := by
  have e : ∀ d : Int, 1 ≤ d → pt_gr (n - 1).toNat (n - d) = pt_gr (n - d).toNat (n - d) := fun d hd => pt_gr_fu _ _ _ (by omega) (by omega)
  rw [show pt_gr n.toNat n = pt_gr ((n - 1).toNat + 1) n from pt_gr_fu _ _ _ (by omega) (by omega), pt_gr_s, if_neg (show ¬ n ≤ 0 by omega), e 1000 (by omega), e 900 (by omega), e 500 (by omega), e 400 (by omega), e 100 (by omega), e 90 (by omega), e 50 (by omega), e 40 (by omega), e 10 (by omega), e 5 (by omega), pt_gr_0 (n - 1).toNat (Int.le_refl 0)]
def pt_ok (n : Nat) : Bool := decide (pt_gr (n + 1) n = pt_ro n)
def pt_okr : Nat → Bool
  | 0 => true
  | m + 1 => pt_ok m && pt_okr m
theorem pt_okr_all : ∀ m, pt_okr m = true → ∀ n, n < m → pt_ok n = true
  | 0, _, n, h => absurd h (Nat.not_lt_zero n)
  | m + 1, h, n, hn => by
    have h' : (pt_ok m && pt_okr m) = true := h
    rw [Bool.and_eq_true] at h'
    by_cases c : n = m
    · rw [c]; exact h'.1
    · exact pt_okr_all m h'.2 n (by omega)
theorem pt_okr_4 : pt_okr 4000 = true := by decide +kernel
theorem pt_gr_ro {n : Int} (h0 : 0 ≤ n) (h1 : n < 4000) : pt_gr n.toNat n = pt_ro n := by
  obtain ⟨m, rfl⟩ := Int.eq_ofNat_of_zero_le h0
  rw [pt_gr_fu _ (m + 1) _ (Nat.le_refl _) (by omega)]
  exact of_decide_eq_true (pt_okr_all 4000 pt_okr_4 m (by omega))
theorem pt_l_app (a b : List Int) : pt_l (a ++ b) = pt_l a ++ pt_l b := List.map_append
theorem pt_bt_k {A : Type} (g : A → List Int) (c : Int) (l : List A) (y : A) : pt_l (pt_bt g c (l ++ [y])) = pt_l (pt_bt g c l) ++ ((if l = [] then [] else [pt_b c, pt_b 32]) ++ pt_l (g y)) := by
  rw [pt_bt_s, pt_l_app, pt_l_app]
  congr 2
  split <;> rfl
/-- a place that can be written -/
def pt_v (x : Int) : Prop := 0 ≤ x ∧ x < 300000 ∧ 1 ≤ x % 100000 ∧ (x / 100000 = 0 → x % 100000 ≤ 3999) ∧ (x / 100000 = 2 → x % 100000 ≤ 702)
theorem lo_v_pv {x : lo_T} (h : lo_v x) : pt_v x.1 ∧ pt_v x.2.1 := by
  obtain ⟨-, h2, h3, h4, h5, h6, h7, h8⟩ := h
  unfold pt_v
  omega
theorem lo_Q_pv {n r : Int} {s : Int → Int} {Ez : Nat → Nat → Int} {EF : Nat → Nat → Int → Int} {PL : List (Int × Int)} (h : lo_Q n s Ez EF r PL) (hH : lo_H n Ez EF) : ∀ y, y ∈ PL → pt_v y.1 ∧ pt_v y.2 := by
  obtain ⟨M, a, b⟩ := h
  rw [b]
  refine lo_L_all (A := pt_v) (lo_J_all (A := pt_v) (fun x hx => lo_v_pv ?_))
  exact lo_row_all (V := lo_v) _ (fun e c d => (hH e c (by omega)).2) x (a.2.mem_iff.mp hx)
theorem pt_lo_1 {y : Int × Int} (h : y.2 = y.1) : pt_lo y = pt_pg (y.1 / 100000) (y.1 % 100000) := by
  unfold pt_lo
  rw [if_pos h, List.append_nil]
theorem pt_lo_2 {y : Int × Int} (h : ¬ y.2 = y.1) : pt_lo y = pt_pg (y.1 / 100000) (y.1 % 100000) ++ (45 :: pt_pg (y.2 / 100000) (y.2 % 100000)) := by
  unfold pt_lo
  rw [if_neg h]
