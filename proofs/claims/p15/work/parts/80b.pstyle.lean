/-! the style: its faults, its parts -/
abbrev pt_mk (c : Int) : Prop := c = 119 ∨ c = 112 ∨ c = 115 ∨ c = 103 ∨ c = 110 ∨ c = 37
/-- the first fault from place k on, b bars before it; f: the style's signs, n many -/
def pt_ft (f : Int → Int) (n : Int) : Nat → Int → Int → Int
  | 0, _, b => if b < 3 then n else -1
  | m + 1, k, b => if n ≤ k then (if b < 3 then n else -1) else if f k = 37 then (if k + 1 < n ∧ pt_mk (f (k + 1)) then pt_ft f n m (k + 2) b else k) else if f k = 124 then (if b = 3 then k else pt_ft f n m (k + 1) (b + 1)) else pt_ft f n m (k + 1) b
/-- a sign of the style, 0 behind its end -/
def pt_gt (f : Int → Int) (n i : Int) : Int := if i < n then f i else 0
/-- what a part of the style writes, from place k on, b bars before it; M: what a mark writes -/
def pt_pt (f : Int → Int) (n : Int) (M : Int → List Int) (part : Int) : Nat → Int → Int → List Int
  | 0, _, _ => []
  | m + 1, k, b => if n ≤ k then [] else if f k = 124 then pt_pt f n M part m (k + 1) (b + 1) else if f k = 37 then (if b = part then M (pt_gt f n (k + 1)) else []) ++ pt_pt f n M part m (k + 2) b else (if b = part then [f k] else []) ++ pt_pt f n M part m (k + 1) b
/-- the next bar -/
def pt_nb (f : Int → Int) (n : Int) : Nat → Int → Int
  | 0, k => k
  | m + 1, k => if n ≤ k then k else if f k = 124 then k else if f k = 37 then pt_nb f n m (k + 2) else pt_nb f n m (k + 1)
/-- more steps than signs change nothing -/
theorem pt_pt_fu {f : Int → Int} {n : Int} {M : Int → List Int} {part : Int} : ∀ (m : Nat) (k b : Int), (n - k).toNat ≤ m → pt_pt f n M part m k b = pt_pt f n M part (n - k).toNat k b
  | 0, k, b, h => by rw [show (n - k).toNat = 0 by omega]
  | m + 1, k, b, h => by
    by_cases c : n ≤ k
    · rw [show (n - k).toNat = 0 by omega]
      exact if_pos c
    · rw [show (n - k).toNat = (n - (k + 1)).toNat + 1 by omega]
      show (if n ≤ k then [] else if f k = 124 then pt_pt f n M part m (k + 1) (b + 1) else if f k = 37 then (if b = part then M (pt_gt f n (k + 1)) else []) ++ pt_pt f n M part m (k + 2) b else (if b = part then [f k] else []) ++ pt_pt f n M part m (k + 1) b) = (if n ≤ k then [] else if f k = 124 then pt_pt f n M part (n - (k + 1)).toNat (k + 1) (b + 1) else if f k = 37 then (if b = part then M (pt_gt f n (k + 1)) else []) ++ pt_pt f n M part (n - (k + 1)).toNat (k + 2) b else (if b = part then [f k] else []) ++ pt_pt f n M part (n - (k + 1)).toNat (k + 1) b)
      rw [pt_pt_fu m (k + 1) (b + 1) (by omega), pt_pt_fu m (k + 1) b (by omega), pt_pt_fu m (k + 2) b (by omega), pt_pt_fu (n - (k + 1)).toNat (k + 2) b (by omega)]
/-- one step of a part -/
theorem pt_pt_bar {f : Int → Int} {n : Int} {M : Int → List Int} {part k b : Int} (h : k < n) (e : f k = 124) : pt_pt f n M part (n - k).toNat k b = pt_pt f n M part (n - (k + 1)).toNat (k + 1) (b + 1) := by
  rw [show (n - k).toNat = (n - (k + 1)).toNat + 1 by omega]
  show (if n ≤ k then [] else if f k = 124 then _ else _) = _
  rw [if_neg (by omega), if_pos e]
theorem pt_pt_mark {f : Int → Int} {n : Int} {M : Int → List Int} {part k b : Int} (h : k < n) (e : f k = 37) : pt_pt f n M part (n - k).toNat k b = (if b = part then M (pt_gt f n (k + 1)) else []) ++ pt_pt f n M part (n - (k + 2)).toNat (k + 2) b := by
  rw [show (n - k).toNat = (n - (k + 1)).toNat + 1 by omega]
  show (if n ≤ k then [] else if f k = 124 then _ else if f k = 37 then _ else _) = _
  rw [if_neg (by omega), if_neg (by omega), if_pos e, pt_pt_fu (n - (k + 1)).toNat (k + 2) b (by omega)]
theorem pt_pt_sign {f : Int → Int} {n : Int} {M : Int → List Int} {part k b : Int} (h : k < n) (e : ¬ f k = 124) (e2 : ¬ f k = 37) : pt_pt f n M part (n - k).toNat k b = (if b = part then [f k] else []) ++ pt_pt f n M part (n - (k + 1)).toNat (k + 1) b := by
  rw [show (n - k).toNat = (n - (k + 1)).toNat + 1 by omega]
  show (if n ≤ k then [] else if f k = 124 then _ else if f k = 37 then _ else _) = _
  rw [if_neg (by omega), if_neg e, if_neg e2]
theorem pt_pt_end {f : Int → Int} {n : Int} {M : Int → List Int} {part k b : Int} (h : n ≤ k) : pt_pt f n M part (n - k).toNat k b = [] := by
  rw [show (n - k).toNat = 0 by omega]
  rfl
/-- behind its bar a part writes nothing -/
theorem pt_pt_gone {f : Int → Int} {n : Int} {M : Int → List Int} {part : Int} : ∀ (m : Nat) (k b : Int), part < b → pt_pt f n M part m k b = []
  | 0, _, _, _ => rfl
  | m + 1, k, b, h => by
    show (if n ≤ k then [] else if f k = 124 then pt_pt f n M part m (k + 1) (b + 1) else if f k = 37 then (if b = part then M (pt_gt f n (k + 1)) else []) ++ pt_pt f n M part m (k + 2) b else (if b = part then [f k] else []) ++ pt_pt f n M part m (k + 1) b) = []
    rw [pt_pt_gone m (k + 1) (b + 1) (by omega), pt_pt_gone m (k + 2) b h, pt_pt_gone m (k + 1) b h, if_neg (show ¬ b = part by omega), if_neg (show ¬ b = part by omega)]
    split
    · rfl
    · split
      · rfl
      · split <;> rfl
/-! the first fault, step by step -/
theorem pt_ft_fu {f : Int → Int} {n : Int} : ∀ (m : Nat) (k b : Int), (n - k).toNat ≤ m → pt_ft f n m k b = pt_ft f n (n - k).toNat k b
  | 0, k, b, h => by rw [show (n - k).toNat = 0 by omega]
  | m + 1, k, b, h => by
    by_cases c : n ≤ k
    · rw [show (n - k).toNat = 0 by omega]
      exact if_pos c
    · rw [show (n - k).toNat = (n - (k + 1)).toNat + 1 by omega]
      show (if n ≤ k then (if b < 3 then n else -1) else if f k = 37 then (if k + 1 < n ∧ pt_mk (f (k + 1)) then pt_ft f n m (k + 2) b else k) else if f k = 124 then (if b = 3 then k else pt_ft f n m (k + 1) (b + 1)) else pt_ft f n m (k + 1) b) = (if n ≤ k then (if b < 3 then n else -1) else if f k = 37 then (if k + 1 < n ∧ pt_mk (f (k + 1)) then pt_ft f n (n - (k + 1)).toNat (k + 2) b else k) else if f k = 124 then (if b = 3 then k else pt_ft f n (n - (k + 1)).toNat (k + 1) (b + 1)) else pt_ft f n (n - (k + 1)).toNat (k + 1) b)
      rw [pt_ft_fu m (k + 1) (b + 1) (by omega), pt_ft_fu m (k + 1) b (by omega), pt_ft_fu m (k + 2) b (by omega), pt_ft_fu (n - (k + 1)).toNat (k + 2) b (by omega)]
theorem pt_ft_st {f : Int → Int} {n k b : Int} (h : k < n) : pt_ft f n (n - k).toNat k b = if f k = 37 then (if k + 1 < n ∧ pt_mk (f (k + 1)) then pt_ft f n (n - (k + 2)).toNat (k + 2) b else k) else if f k = 124 then (if b = 3 then k else pt_ft f n (n - (k + 1)).toNat (k + 1) (b + 1)) else pt_ft f n (n - (k + 1)).toNat (k + 1) b := by
  rw [show (n - k).toNat = (n - (k + 1)).toNat + 1 by omega]
  show (if n ≤ k then _ else if f k = 37 then (if k + 1 < n ∧ pt_mk (f (k + 1)) then pt_ft f n (n - (k + 1)).toNat (k + 2) b else k) else if f k = 124 then (if b = 3 then k else pt_ft f n (n - (k + 1)).toNat (k + 1) (b + 1)) else pt_ft f n (n - (k + 1)).toNat (k + 1) b) = _
  rw [if_neg (by omega), pt_ft_fu (n - (k + 1)).toNat (k + 2) b (by omega)]
theorem pt_ft_end {f : Int → Int} {n k b : Int} (h : n ≤ k) : pt_ft f n (n - k).toNat k b = if b < 3 then n else -1 := by
  rw [show (n - k).toNat = 0 by omega]
  rfl
theorem pt_ft_mark {f : Int → Int} {n k b : Int} (h : k < n) (e : f k = 37) (h1 : k + 1 < n) (h2 : pt_mk (f (k + 1))) : pt_ft f n (n - k).toNat k b = pt_ft f n (n - (k + 2)).toNat (k + 2) b := by
  rw [pt_ft_st h, if_pos e, if_pos ⟨h1, h2⟩]
theorem pt_ft_bad {f : Int → Int} {n k b : Int} (h : k < n) (e : f k = 37) (h1 : ¬ (k + 1 < n ∧ pt_mk (f (k + 1)))) : pt_ft f n (n - k).toNat k b = k := by
  rw [pt_ft_st h, if_pos e, if_neg h1]
theorem pt_ft_bar {f : Int → Int} {n k b : Int} (h : k < n) (e : f k = 124) (h1 : ¬ b = 3) : pt_ft f n (n - k).toNat k b = pt_ft f n (n - (k + 1)).toNat (k + 1) (b + 1) := by
  rw [pt_ft_st h, if_neg (by omega), if_pos e, if_neg h1]
theorem pt_ft_many {f : Int → Int} {n k b : Int} (h : k < n) (e : f k = 124) (h1 : b = 3) : pt_ft f n (n - k).toNat k b = k := by
  rw [pt_ft_st h, if_neg (by omega), if_pos e, if_pos h1]
theorem pt_ft_sign {f : Int → Int} {n k b : Int} (h : k < n) (e : ¬ f k = 124) (e2 : ¬ f k = 37) : pt_ft f n (n - k).toNat k b = pt_ft f n (n - (k + 1)).toNat (k + 1) b := by
  rw [pt_ft_st h, if_neg e2, if_neg e]
theorem pt_ft_cg {f g : Int → Int} {n : Int} (hf : ∀ i, 0 ≤ i → i < n → f i = g i) : ∀ (m : Nat) (k b : Int), 0 ≤ k → pt_ft f n m k b = pt_ft g n m k b
  | 0, _, _, _ => rfl
  | m + 1, k, b, h => by
    show (if n ≤ k then (if b < 3 then n else -1) else if f k = 37 then (if k + 1 < n ∧ pt_mk (f (k + 1)) then pt_ft f n m (k + 2) b else k) else if f k = 124 then (if b = 3 then k else pt_ft f n m (k + 1) (b + 1)) else pt_ft f n m (k + 1) b) = (if n ≤ k then (if b < 3 then n else -1) else if g k = 37 then (if k + 1 < n ∧ pt_mk (g (k + 1)) then pt_ft g n m (k + 2) b else k) else if g k = 124 then (if b = 3 then k else pt_ft g n m (k + 1) (b + 1)) else pt_ft g n m (k + 1) b)
    by_cases c : n ≤ k
    · rw [if_pos c, if_pos c]
    · rw [if_neg c, if_neg c, hf k h (by omega), pt_ft_cg hf m (k + 1) (b + 1) (by omega), pt_ft_cg hf m (k + 1) b (by omega), pt_ft_cg hf m (k + 2) b (by omega)]
      by_cases d : k + 1 < n
      · rw [hf (k + 1) (by omega) d]
      · rw [if_neg (show ¬ (k + 1 < n ∧ pt_mk (f (k + 1))) from fun h9 => d h9.1), if_neg (show ¬ (k + 1 < n ∧ pt_mk (g (k + 1))) from fun h9 => d h9.1)]
/-! bars -/
theorem pt_nb_fu {f : Int → Int} {n : Int} : ∀ (m : Nat) (k : Int), (n - k).toNat ≤ m → pt_nb f n m k = pt_nb f n (n - k).toNat k
  | 0, k, h => by rw [show (n - k).toNat = 0 by omega]
  | m + 1, k, h => by
    by_cases c : n ≤ k
    · rw [show (n - k).toNat = 0 by omega]
      exact if_pos c
    · rw [show (n - k).toNat = (n - (k + 1)).toNat + 1 by omega]
      show (if n ≤ k then k else if f k = 124 then k else if f k = 37 then pt_nb f n m (k + 2) else pt_nb f n m (k + 1)) = (if n ≤ k then k else if f k = 124 then k else if f k = 37 then pt_nb f n (n - (k + 1)).toNat (k + 2) else pt_nb f n (n - (k + 1)).toNat (k + 1))
      rw [pt_nb_fu m (k + 1) (by omega), pt_nb_fu m (k + 2) (by omega), pt_nb_fu (n - (k + 1)).toNat (k + 2) (by omega)]
theorem pt_nb_st {f : Int → Int} {n k : Int} (h : k < n) : pt_nb f n (n - k).toNat k = if f k = 124 then k else if f k = 37 then pt_nb f n (n - (k + 2)).toNat (k + 2) else pt_nb f n (n - (k + 1)).toNat (k + 1) := by
  rw [show (n - k).toNat = (n - (k + 1)).toNat + 1 by omega]
  show (if n ≤ k then k else if f k = 124 then k else if f k = 37 then pt_nb f n (n - (k + 1)).toNat (k + 2) else pt_nb f n (n - (k + 1)).toNat (k + 1)) = _
  rw [if_neg (by omega), pt_nb_fu (n - (k + 1)).toNat (k + 2) (by omega)]
theorem pt_nb_end {f : Int → Int} {n k : Int} (h : n ≤ k) : pt_nb f n (n - k).toNat k = k := by
  rw [show (n - k).toNat = 0 by omega]
  rfl
theorem pt_nb_bar {f : Int → Int} {n k : Int} (h : k < n) (e : f k = 124) : pt_nb f n (n - k).toNat k = k := by rw [pt_nb_st h, if_pos e]
theorem pt_nb_mark {f : Int → Int} {n k : Int} (h : k < n) (e : f k = 37) : pt_nb f n (n - k).toNat k = pt_nb f n (n - (k + 2)).toNat (k + 2) := by rw [pt_nb_st h, if_neg (by omega), if_pos e]
theorem pt_nb_sign {f : Int → Int} {n k : Int} (h : k < n) (e : ¬ f k = 124) (e2 : ¬ f k = 37) : pt_nb f n (n - k).toNat k = pt_nb f n (n - (k + 1)).toNat (k + 1) := by rw [pt_nb_st h, if_neg e, if_neg e2]
theorem pt_nb_ge {f : Int → Int} {n : Int} : ∀ (m : Nat) (k : Int), k ≤ pt_nb f n m k
  | 0, k => Int.le_refl k
  | m + 1, k => by
    show k ≤ (if n ≤ k then k else if f k = 124 then k else if f k = 37 then pt_nb f n m (k + 2) else pt_nb f n m (k + 1))
    have h1 := pt_nb_ge (f := f) (n := n) m (k + 1)
    have h2 := pt_nb_ge (f := f) (n := n) m (k + 2)
    split
    · omega
    · split
      · omega
      · split <;> omega
/-- where a part ends it writes nothing more -/
theorem pt_pt_at {f : Int → Int} {n : Int} {M : Int → List Int} {part k : Int} (h : pt_nb f n (n - k).toNat k = k) : pt_pt f n M part (n - k).toNat k part = [] := by
  by_cases c : n ≤ k
  · exact pt_pt_end c
  · by_cases d : f k = 124
    · rw [pt_pt_bar (by omega) d]
      exact pt_pt_gone _ _ _ (by omega)
    · exfalso
      by_cases e : f k = 37
      · rw [pt_nb_mark (by omega) e] at h
        have := pt_nb_ge (f := f) (n := n) (n - (k + 2)).toNat (k + 2)
        omega
      · rw [pt_nb_sign (by omega) d e] at h
        have := pt_nb_ge (f := f) (n := n) (n - (k + 1)).toNat (k + 1)
        omega
/-- up to the next bar nothing is written for a later part -/
theorem pt_pt_skip {f : Int → Int} {n : Int} {M : Int → List Int} {part : Int} : ∀ (m : Nat) (k b : Int), (n - k).toNat ≤ m → b < part → pt_nb f n (n - k).toNat k < n → pt_pt f n M part (n - k).toNat k b = pt_pt f n M part (n - (pt_nb f n (n - k).toNat k + 1)).toNat (pt_nb f n (n - k).toNat k + 1) (b + 1)
  | 0, k, b, hm, hb, hn => by
    have := pt_nb_ge (f := f) (n := n) (n - k).toNat k
    omega
  | m + 1, k, b, hm, hb, hn => by
    have hg := pt_nb_ge (f := f) (n := n) (n - k).toNat k
    by_cases d : f k = 124
    · rw [pt_nb_bar (by omega) d, pt_pt_bar (by omega) d]
    · by_cases e : f k = 37
      · have q := pt_nb_mark (f := f) (n := n) (k := k) (by omega) e
        rw [q] at hn ⊢
        rw [pt_pt_mark (by omega) e, if_neg (by omega), List.nil_append]
        exact pt_pt_skip m (k + 2) b (by omega) hb hn
      · have q := pt_nb_sign (f := f) (n := n) (k := k) (by omega) d e
        rw [q] at hn ⊢
        rw [pt_pt_sign (by omega) d e, if_neg (by omega), List.nil_append]
        exact pt_pt_skip m (k + 1) b (by omega) hb hn
/-- the bars, where they stand -/
def pt_st (B : Int → Int) (p : Int) : Int := if p = 0 then 0 else B (p - 1) + 1
def pt_Br (f : Int → Int) (n : Int) (B : Int → Int) : Prop := (∀ p, 0 ≤ p → p ≤ 3 → (0 ≤ pt_st B p ∧ pt_st B p ≤ n) ∧ pt_nb f n (n - pt_st B p).toNat (pt_st B p) = B p) ∧ (∀ p, 0 ≤ p → p < 3 → B p < n) ∧ B 3 = n ∧ ∀ p, 0 ≤ p → p ≤ 3 → pt_ft f n (n - pt_st B p).toNat (pt_st B p) p = -1
theorem pt_Br_bar {f : Int → Int} {n : Int} {B : Int → Int} (h : pt_Br f n B) (M : Int → List Int) {part : Int} (h1 : part ≤ 3) : ∀ (p : Nat), (p : Int) ≤ part → pt_pt f n M part n.toNat 0 0 = pt_pt f n M part (n - pt_st B p).toNat (pt_st B p) p
  | 0, _ => by
    show _ = pt_pt f n M part (n - 0).toNat 0 0
    rw [Int.sub_zero]
  | p + 1, hp => by
    have q := h.1 p (by omega) (by omega)
    have r := h.2.1 p (by omega) (by omega)
    rw [pt_Br_bar h M h1 p (by omega), pt_pt_skip _ _ _ (Nat.le_refl _) (by omega) (by rw [q.2]; exact r), q.2]
    show _ = pt_pt f n M part (n - pt_st B ((p : Int) + 1)).toNat (pt_st B ((p : Int) + 1)) ((p : Int) + 1)
    unfold pt_st
    rw [if_neg (show ¬ (p : Int) + 1 = 0 by omega), show (p : Int) + 1 - 1 = p by omega]
theorem pt_Br_part {f : Int → Int} {n : Int} {B : Int → Int} (h : pt_Br f n B) (M : Int → List Int) {part : Int} (h0 : 0 ≤ part) (h1 : part ≤ 3) : pt_pt f n M part n.toNat 0 0 = pt_pt f n M part (n - pt_st B part).toNat (pt_st B part) part := by
  have q := pt_Br_bar h M h1 part.toNat (by omega)
  rw [show ((part.toNat : Nat) : Int) = part by omega] at q
  exact q
theorem pt_pt_cg {f g : Int → Int} {n part : Int} {M N : Int → List Int} (hf : ∀ i, 0 ≤ i → i < n → f i = g i) (hM : ∀ c, M c = N c) : ∀ (m : Nat) (k b : Int), 0 ≤ k → pt_pt f n M part m k b = pt_pt g n N part m k b
  | 0, _, _, _ => rfl
  | m + 1, k, b, h => by
    show (if n ≤ k then [] else if f k = 124 then pt_pt f n M part m (k + 1) (b + 1) else if f k = 37 then (if b = part then M (pt_gt f n (k + 1)) else []) ++ pt_pt f n M part m (k + 2) b else (if b = part then [f k] else []) ++ pt_pt f n M part m (k + 1) b) = (if n ≤ k then [] else if g k = 124 then pt_pt g n N part m (k + 1) (b + 1) else if g k = 37 then (if b = part then N (pt_gt g n (k + 1)) else []) ++ pt_pt g n N part m (k + 2) b else (if b = part then [g k] else []) ++ pt_pt g n N part m (k + 1) b)
    by_cases c : n ≤ k
    · rw [if_pos c, if_pos c]
    · have hg : pt_gt f n (k + 1) = pt_gt g n (k + 1) := by
        unfold pt_gt
        by_cases d : k + 1 < n
        · rw [if_pos d, if_pos d, hf _ (by omega) d]
        · rw [if_neg d, if_neg d]
      rw [if_neg c, if_neg c, hf k h (by omega), hg, hM, pt_pt_cg hf hM m (k + 1) (b + 1) (by omega), pt_pt_cg hf hM m (k + 1) b (by omega), pt_pt_cg hf hM m (k + 2) b (by omega)]
