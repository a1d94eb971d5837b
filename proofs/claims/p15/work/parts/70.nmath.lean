/-! rows to see, groups -/
def sn_ad (l : List Int) (x : Int) : List Int := if x ∈ l then l else l ++ [x]
/-- of one entry, m to see come to l -/
def sn_s (s : Int → Int) (se : Int → Int → Int) (e : Int) (l : List Int) : Nat → List Int
  | 0 => l
  | m + 1 => sn_ad (sn_s s se e l m) (s (se e m))
/-- of the first m entries, those of the row r -/
def sn_r (s sn : Int → Int) (se : Int → Int → Int) (r : Int) : Nat → List Int
  | 0 => []
  | m + 1 => if s m = r then sn_s s se m (sn_r s sn se r m) (sn m).toNat else sn_r s sn se r m
theorem sn_s_s {s : Int → Int} {se : Int → Int → Int} {e k : Int} {l : List Int} (h : 0 ≤ k) : sn_s s se e l (k + 1).toNat = sn_ad (sn_s s se e l k.toNat) (s (se e k)) := by
  rw [show (k + 1).toNat = k.toNat + 1 by omega]
  show sn_ad (sn_s s se e l k.toNat) (s (se e ((k.toNat : Nat) : Int))) = _
  rw [show ((k.toNat : Nat) : Int) = k by omega]
theorem sn_r_y {s sn : Int → Int} {se : Int → Int → Int} {r k : Int} (h : 0 ≤ k) (e : s k = r) : sn_r s sn se r (k + 1).toNat = sn_s s se k (sn_r s sn se r k.toNat) (sn k).toNat := by
  rw [show (k + 1).toNat = k.toNat + 1 by omega]
  show (if s ((k.toNat : Nat) : Int) = r then _ else _) = _
  rw [show ((k.toNat : Nat) : Int) = k by omega, if_pos e]
theorem sn_r_n {s sn : Int → Int} {se : Int → Int → Int} {r k : Int} (h : 0 ≤ k) (e : ¬ s k = r) : sn_r s sn se r (k + 1).toNat = sn_r s sn se r k.toNat := by
  rw [show (k + 1).toNat = k.toNat + 1 by omega]
  show (if s ((k.toNat : Nat) : Int) = r then _ else _) = _
  rw [show ((k.toNat : Nat) : Int) = k by omega, if_neg e]
theorem sn_ad_y {l : List Int} {x : Int} (h : x ∈ l) : sn_ad l x = l := if_pos h
theorem sn_ad_n {l : List Int} {x : Int} (h : ¬ x ∈ l) : sn_ad l x = l ++ [x] := if_neg h
theorem sn_s_cg {s t : Int → Int} {se : Int → Int → Int} {e : Int} {l : List Int} : ∀ (m : Nat), (∀ k : Int, 0 ≤ k → k < m → s (se e k) = t (se e k)) → sn_s s se e l m = sn_s t se e l m
  | 0, _ => rfl
  | m + 1, h => by
    show sn_ad (sn_s s se e l m) (s (se e m)) = sn_ad (sn_s t se e l m) (t (se e m))
    rw [sn_s_cg m (fun k a b => h k a (by omega)), h m (by omega) (by omega)]
theorem sn_r_cg {s t sn : Int → Int} {se : Int → Int → Int} {r n : Int} (hs : ∀ e, 0 ≤ e → e < n → s e = t e) (hse : ∀ e, 0 ≤ e → e < n → ∀ k, 0 ≤ k → k < sn e → 0 ≤ se e k ∧ se e k < n) : ∀ (m : Nat), (m : Int) ≤ n → sn_r s sn se r m = sn_r t sn se r m
  | 0, _ => rfl
  | m + 1, h => by
    show (if s m = r then sn_s s se m (sn_r s sn se r m) (sn m).toNat else sn_r s sn se r m) = (if t m = r then sn_s t se m (sn_r t sn se r m) (sn m).toNat else sn_r t sn se r m)
    rw [sn_r_cg hs hse m (by omega), hs m (by omega) (by omega), sn_s_cg (s := s) (t := t) (sn m).toNat (fun k a b => hs _ (hse m (by omega) (by omega) k a (by omega)).1 (hse m (by omega) (by omega) k a (by omega)).2)]
theorem kf_ls_mem {F : Int → Int} {x : Int} : ∀ {m : Nat} {i : Int}, x ∈ kf_ls F i m ↔ ∃ j, i ≤ j ∧ j < i + m ∧ F j = x
  | 0, i => ⟨fun h => absurd h List.not_mem_nil, fun ⟨j, a, b, _⟩ => absurd b (by omega)⟩
  | m + 1, i => by
    show x ∈ F i :: kf_ls F (i + 1) m ↔ _
    rw [List.mem_cons, kf_ls_mem (m := m) (i := i + 1)]
    constructor
    · rintro (h | ⟨j, a, b, c⟩)
      · exact ⟨i, by omega, by omega, h.symm⟩
      · exact ⟨j, by omega, by omega, c⟩
    · rintro ⟨j, a, b, c⟩
      by_cases e : j = i
      · exact Or.inl (by rw [← e]; exact c.symm)
      · exact Or.inr ⟨j, by omega, by omega, c⟩
theorem kf_ls_sn {F G : Int → Int} {m v : Int} (h0 : 0 ≤ m) (h1 : ∀ j, 0 ≤ j → j < m → G j = F j) (h2 : G m = v) : kf_ls G 0 (m + 1).toNat = kf_ls F 0 m.toNat ++ [v] := by
  rw [show (m + 1).toNat = m.toNat + 1 by omega, kf_ls_app, show (0 : Int) + ((m.toNat : Nat) : Int) = m by omega, h2, kf_ls_congr (G := F) m.toNat 0 (fun j a b => h1 j a (by omega))]
/-! a group: by what a key begins with -/
def sn_g : List Int → Int
  | [] => 0
  | a :: _ => if a < 97 then 1 else a
/-- nothing begins with a break -/
theorem kf_kk_1 (f : Int → Int) (n dg wd : Int) : ∀ (m : Nat) (k : Int) (t : List Int), 0 ≤ k → (n - k).toNat = m → (k = 0 ∨ ¬ kf_kd (f (k - 1))) → kf_kk f n dg wd m k false false = 1 :: t → False
  | 0, _, _, _, _, _, h => absurd h.symm (List.cons_ne_nil _ _)
  | m + 1, k, t, h0, hm, hp, h => by
    have h' : (if kf_kl (f k) = 0 ∧ ¬ kf_kd (f k) then kf_kk f n dg wd m (k + 1) (decide (wd = 1) && false) false else ([] : List Int) ++ ((if ¬ kf_kl (f k) = 0 then [kf_kl (f k)] else if dg = 0 then kf_kn f k (k + 1) else if 0 < k ∧ kf_kd (f (k - 1)) then [] else kf_kn f k (kf_ke f n (n - k).toNat k)) ++ kf_kk f n dg wd m (k + 1) false true)) = 1 :: t := h
    by_cases c : kf_kl (f k) = 0 ∧ ¬ kf_kd (f k)
    · rw [if_pos c, Bool.and_false] at h'
      exact kf_kk_1 f n dg wd m (k + 1) t (by omega) (by omega) (Or.inr (by rw [show k + 1 - 1 = k by omega]; exact c.2)) h'
    · rw [if_neg c, List.nil_append] at h'
      by_cases d : ¬ kf_kl (f k) = 0
      · rw [if_pos d] at h'
        have q := (List.cons.inj h').1
        have := kf_kl_bd (f k)
        omega
      · rw [if_neg d] at h'
        by_cases e : dg = 0
        · rw [if_pos e] at h'
          have q : 2 + (k + 1) - kf_kz f (k + 1) (k + 1 - k).toNat k = 1 := (List.cons.inj h').1
          have := kf_kz_bd f (k + 1) (k + 1 - k).toNat k (by omega)
          omega
        · rw [if_neg e, if_neg (by rintro ⟨p1, p2⟩; rcases hp with hp | hp; omega; exact hp p2)] at h'
          have hke := kf_ke_bd f n (n - k).toNat k (by omega)
          have q : 2 + kf_ke f n (n - k).toNat k - kf_kz f (kf_ke f n (n - k).toNat k) (kf_ke f n (n - k).toNat k - k).toNat k = 1 := (List.cons.inj h').1
          have := kf_kz_bd f (kf_ke f n (n - k).toNat k) (kf_ke f n (n - k).toNat k - k).toNat k hke.1
          omega
theorem kf_kI_1 {f : Int → Int} {n dg wd : Int} {t : List Int} (h : kf_kI f n dg wd 0 0 0 = 1 :: t) : False := kf_kk_1 f n dg wd (n - 0).toNat 0 t (Int.le_refl 0) rfl (Or.inl rfl) h
theorem sn_g_eu {S : Int → Int} {u v w : Int} {X : List Int} (h : kf_euk u v w) (hX : u = -1 → X = []) (hn : ∀ t, kf_eu S u v w ++ X = 1 :: t → False) : sn_g (kf_eu S u v w ++ X) = (if u = -1 then 0 else if u = 1 then 1 else v) := by
  rcases kf_eu_hd (S := S) h with ⟨a1, a2⟩ | ⟨a, t, a1, a2⟩
  · rw [a2, hX a1, if_pos a1]; rfl
  · rw [a1] at hn ⊢
    show (if a < 97 then 1 else a) = _
    rcases a2 with ⟨e1, e2⟩ | ⟨e1, e2, e3, e4⟩ | ⟨e1, e2, e3⟩
    · exact (hn (t ++ X) (by rw [e2]; rfl)).elim
    · rw [if_pos (by omega), if_neg (by omega), if_pos e1]
    · rw [if_neg (by omega), if_neg (by omega), if_neg (by omega), e2]
/-! what the walks want -/
def sn_D (f : Int → Int) (m n : Int) : Prop := (∀ j, 0 ≤ j → j < m → 0 ≤ f j ∧ f j < n) ∧ ∀ i j, 0 ≤ i → i < j → j < m → ¬ f i = f j
theorem sn_D_0 (f : Int → Int) (n : Int) : sn_D f 0 n := ⟨fun j a b => absurd b (by omega), fun i j a b c => absurd c (by omega)⟩
theorem sn_D_few {f : Int → Int} {m n : Int} (h : sn_D f m n) (h0 : 0 ≤ m) (h1 : 0 ≤ n) : m ≤ n := rs_few h0 h1 h.1 h.2
theorem sn_D_add {L z z' v n : Int} {F F' : Int → Int} (hD : sn_D F z n) (h0 : 0 ≤ z) (hz : z < L) (h : iAdd L z F z' F' v) (hv : 0 ≤ v ∧ v < n) (hn : ∀ i, 0 ≤ i → i < z → ¬ F i = v) : sn_D F' z' n := by
  obtain ⟨a, b, c⟩ := rs_added h0 hz h
  rw [a]
  refine ⟨fun j p q => ?_, fun i j p q r => ?_⟩
  · by_cases e : j = z
    · rw [e, c]; exact hv
    · rw [b j p (by omega)]; exact hD.1 j p (by omega)
  · by_cases e : j = z
    · rw [e, c, b i p (by omega)]; exact hn i p (by omega)
    · rw [b i p (by omega), b j (by omega) (by omega)]; exact hD.2 i j p q (by omega)
theorem sn_s_e {s : Int → Int} {se : Int → Int → Int} {e : Int} {l : List Int} : ∀ (m : Nat), sn_s s (fun _ k => se e k) 0 l m = sn_s s se e l m
  | 0 => rfl
  | m + 1 => by
    show sn_ad (sn_s s (fun _ k => se e k) 0 l m) (s (se e m)) = sn_ad (sn_s s se e l m) (s (se e m))
    rw [sn_s_e m]
theorem sn_g_ls {F : Int → Int} {m : Int} (h : 0 < m) : sn_g (kf_ls F 0 m.toNat) = if F 0 < 97 then 1 else F 0 := by
  rw [show m.toNat = (m - 1).toNat + 1 by omega]
  rfl
theorem sn_g_0 {F : Int → Int} {m : Int} (h : m ≤ 0) : sn_g (kf_ls F 0 m.toNat) = 0 := by
  rw [show m.toNat = 0 by omega]
  rfl
/-- the class's own: how many to see, and which -/
def sn_c (Ez : Nat → Nat → Int) : Int → Int := fun e => Ez ((e + 1).toNat) 3
def sn_f (EF : Nat → Nat → Int → Int) : Int → Int → Int := fun e k => EF ((e + 1).toNat) 3 k
def sn_H (n : Int) (Ez : Nat → Nat → Int) (EF : Nat → Nat → Int → Int) : Prop := ∀ e, 0 ≤ e → e < n → ∀ k, 0 ≤ k → k < Ez ((e + 1).toNat) 3 → 0 ≤ EF ((e + 1).toNat) 3 k ∧ EF ((e + 1).toNat) 3 k < n
theorem sn_H.fr {n : Int} {En En' : Nat → Nat → Nat} {Ez Ez' : Nat → Nat → Int} {EF EF' : Nat → Nat → Int → Int} {S T : List Nat} (h : sn_H n Ez EF) (he : eFr S T En Ez EF En' Ez' EF') (h1 : 3 ∉ S) (h2 : 3 ∉ T) : sn_H n Ez' EF' := by
  intro e a b
  rw [he.1 _ 3 h1, (he.2 _ 3 h2).2]
  exact h e a b
