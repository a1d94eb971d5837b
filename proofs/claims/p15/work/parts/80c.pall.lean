/-! what a mark writes; a part of a row; all rows -/
def pt_mw (w p s : List Int) (o g c : Int) : List Int := if c = 37 then [37] else if c = 110 then [10] else if c = 103 then [if g < 97 then 48 + g else g] else if o = 0 then [] else if c = 119 then w else if c = 112 then p else if c = 115 then s else []
section PMW
variable {w p s : List Int} {o g c : Int}
theorem pt_mw_37 (h : c = 37) : pt_mw w p s o g c = [37] := if_pos h
theorem pt_mw_110 (h : c = 110) : pt_mw w p s o g c = [10] := by unfold pt_mw; rw [if_neg (by omega), if_pos h]
theorem pt_mw_103a (h : c = 103) (h1 : g < 97) : pt_mw w p s o g c = [48 + g] := by unfold pt_mw; rw [if_neg (by omega), if_neg (by omega), if_pos h, if_pos h1]
theorem pt_mw_103b (h : c = 103) (h1 : ¬ g < 97) : pt_mw w p s o g c = [g] := by unfold pt_mw; rw [if_neg (by omega), if_neg (by omega), if_pos h, if_neg h1]
theorem pt_mw_119 (h : c = 119) (h1 : ¬ o = 0) : pt_mw w p s o g c = w := by unfold pt_mw; rw [if_neg (by omega), if_neg (by omega), if_neg (by omega), if_neg h1, if_pos h]
theorem pt_mw_112 (h : c = 112) (h1 : ¬ o = 0) : pt_mw w p s o g c = p := by unfold pt_mw; rw [if_neg (by omega), if_neg (by omega), if_neg (by omega), if_neg h1, if_neg (by omega), if_pos h]
theorem pt_mw_115 (h : c = 115) (h1 : ¬ o = 0) : pt_mw w p s o g c = s := by unfold pt_mw; rw [if_neg (by omega), if_neg (by omega), if_neg (by omega), if_neg h1, if_neg (by omega), if_neg (by omega), if_pos h]
theorem pt_mw_0 (a : ¬ c = 37) (b : ¬ c = 110) (d : ¬ c = 103) (h : o = 0 ∨ (¬ c = 119 ∧ ¬ c = 112 ∧ ¬ c = 115)) : pt_mw w p s o g c = [] := by
  unfold pt_mw
  rw [if_neg a, if_neg b, if_neg d]
  rcases h with h | ⟨h1, h2, h3⟩
  · rw [if_pos h]
  · rw [if_neg h1, if_neg h2, if_neg h3]
    split <;> rfl
end PMW
/-- the words of an entry of the class -/
def pt_wd (Ez : Nat → Nat → Int) (EF : Nat → Nat → Int → Int) (e : Int) : List Int := kf_ls (EF ((e + 1).toNat) 0) 0 (Ez ((e + 1).toNat) 0).toNat
def pt_of (part : Int) : Int := if 0 < part then 1 else 0
def pt_P (f : Int → Int) (n : Int) (w p s : Int → List Int) (g : Int → Int) (part r : Int) : List Int := pt_pt f n (pt_mw (w r) (p r) (s r) (pt_of part) (g r)) part n.toNat 0 0
def pt_gb (lv g R : Int → Int) : Nat → Int
  | 0 => -1
  | k + 1 => if lv (R k) = 0 then g (R k) else pt_gb lv g R k
def pt_al (P : Int → Int → List Int) (lv g R : Int → Int) : Nat → List Int
  | 0 => []
  | k + 1 => pt_al P lv g R k ++ ((if lv (R k) = 0 ∧ ¬ g (R k) = pt_gb lv g R k then P 0 (R k) else []) ++ P (1 + lv (R k)) (R k))
theorem pt_gb_s {lv g R : Int → Int} {k : Int} (h : 0 ≤ k) : pt_gb lv g R (k + 1).toNat = if lv (R k) = 0 then g (R k) else pt_gb lv g R k.toNat := by
  rw [show (k + 1).toNat = k.toNat + 1 by omega]
  show (if lv (R ((k.toNat : Nat) : Int)) = 0 then g (R ((k.toNat : Nat) : Int)) else pt_gb lv g R k.toNat) = _
  rw [show ((k.toNat : Nat) : Int) = k by omega]
theorem pt_al_s {P : Int → Int → List Int} {lv g R : Int → Int} {k : Int} (h : 0 ≤ k) : pt_al P lv g R (k + 1).toNat = pt_al P lv g R k.toNat ++ ((if lv (R k) = 0 ∧ ¬ g (R k) = pt_gb lv g R k.toNat then P 0 (R k) else []) ++ P (1 + lv (R k)) (R k)) := by
  rw [show (k + 1).toNat = k.toNat + 1 by omega]
  show pt_al P lv g R k.toNat ++ ((if lv (R ((k.toNat : Nat) : Int)) = 0 ∧ ¬ g (R ((k.toNat : Nat) : Int)) = pt_gb lv g R k.toNat then P 0 (R ((k.toNat : Nat) : Int)) else []) ++ P (1 + lv (R ((k.toNat : Nat) : Int))) (R ((k.toNat : Nat) : Int))) = _
  rw [show ((k.toNat : Nat) : Int) = k by omega]
theorem pt_al_le {P : Int → Int → List Int} {lv g R : Int → Int} (k : Nat) : ∀ m, (pt_al P lv g R k).length ≤ (pt_al P lv g R (k + m)).length
  | 0 => Nat.le_refl _
  | m + 1 => by
    refine Nat.le_trans (pt_al_le k m) ?_
    show _ ≤ (pt_al P lv g R (k + m) ++ _).length
    rw [List.length_append]
    exact Nat.le_add_right _ _
theorem pt_gb_cg {lv g R lv' g' R' : Int → Int} : ∀ (m : Nat), (∀ i : Int, 0 ≤ i → i < m → lv (R i) = lv' (R' i) ∧ g (R i) = g' (R' i)) → pt_gb lv g R m = pt_gb lv' g' R' m
  | 0, _ => rfl
  | m + 1, h => by
    show (if lv (R m) = 0 then g (R m) else pt_gb lv g R m) = (if lv' (R' m) = 0 then g' (R' m) else pt_gb lv' g' R' m)
    rw [pt_gb_cg m (fun i a b => h i a (by omega)), (h m (by omega) (by omega)).1, (h m (by omega) (by omega)).2]
theorem pt_al_cg {P P' : Int → Int → List Int} {lv g R lv' g' R' : Int → Int} : ∀ (m : Nat), (∀ i : Int, 0 ≤ i → i < m → (lv (R i) = lv' (R' i) ∧ g (R i) = g' (R' i)) ∧ P 0 (R i) = P' 0 (R' i) ∧ P (1 + lv (R i)) (R i) = P' (1 + lv' (R' i)) (R' i)) → pt_al P lv g R m = pt_al P' lv' g' R' m
  | 0, _ => rfl
  | m + 1, h => by
    obtain ⟨⟨h1, h2⟩, h3, h4⟩ := h m (by omega) (by omega)
    show pt_al P lv g R m ++ ((if lv (R m) = 0 ∧ ¬ g (R m) = pt_gb lv g R m then P 0 (R m) else []) ++ P (1 + lv (R m)) (R m)) = pt_al P' lv' g' R' m ++ ((if lv' (R' m) = 0 ∧ ¬ g' (R' m) = pt_gb lv' g' R' m then P' 0 (R' m) else []) ++ P' (1 + lv' (R' m)) (R' m))
    rw [pt_al_cg m (fun i a b => h i a (by omega)), pt_gb_cg m (fun i a b => (h i a (by omega)).1), h4, h3, h1, h2]
theorem pt_P_cg {f f' : Int → Int} {n part r r' : Int} {w p s w' p' s' : Int → List Int} {g g' : Int → Int} (hf : ∀ i, 0 ≤ i → i < n → f i = f' i) (hw : w r = w' r') (hp : p r = p' r') (hs : s r = s' r') (hg : g r = g' r') : pt_P f n w p s g part r = pt_P f' n w' p' s' g' part r' := by
  unfold pt_P
  rw [hw, hp, hs, hg]
  exact pt_pt_cg hf (fun _ => rfl) _ _ _ (Int.le_refl 0)
theorem pt_bt_cg {g h : Int → List Int} {c : Int} : ∀ {l : List Int}, (∀ y, y ∈ l → g y = h y) → pt_bt g c l = pt_bt h c l
  | [], _ => rfl
  | y :: l, e => by
    show g y ++ (l.flatMap (fun w => c :: 32 :: g w)) = h y ++ (l.flatMap (fun w => c :: 32 :: h w))
    rw [e y (List.mem_cons_self ..)]
    congr 1
    have e2 : ∀ w, w ∈ l → g w = h w := fun w hw => e w (List.mem_cons_of_mem _ hw)
    clear e
    induction l with
    | nil => rfl
    | cons x l ih =>
      rw [List.flatMap_cons, List.flatMap_cons, e2 x (List.mem_cons_self ..), ih (fun w hw => e2 w (List.mem_cons_of_mem _ hw))]
theorem pt_l_len (l : List Int) : (pt_l l).length = l.length := List.length_map ..
theorem pt_X_len {f f' : Int → Int} {z tl z' tl' : Int} {Y : List Int} (h : pt_X f z tl Y f' z' tl') (h0 : z = 0) (h1 : tl = 0) : pt_h Y f' z' tl' := by
  subst h0
  subst h1
  have q := h [] (pt_h_0 f)
  rw [List.nil_append] at q
  exact q
/-! locators of a row, whatever the order of its pages -/
theorem pt_ins (x : lo_T) : ∀ (M : List lo_T), lo_so M → ∃ M', lo_so M' ∧ M'.Perm (x :: M)
  | [], _ => ⟨[x], List.pairwise_singleton _ _, List.Perm.refl _⟩
  | y :: M, h => by
    have h' := List.pairwise_cons.mp h
    by_cases c : x.1 ≤ y.1
    · refine ⟨x :: y :: M, List.pairwise_cons.mpr ⟨fun z hz => ?_, h⟩, List.Perm.refl _⟩
      rcases List.mem_cons.mp hz with e | e
      · rw [e]; exact c
      · exact Int.le_trans c (h'.1 z e)
    · obtain ⟨M', s, p⟩ := pt_ins x M h'.2
      refine ⟨y :: M', List.pairwise_cons.mpr ⟨fun z hz => ?_, s⟩, (p.cons y).trans (List.Perm.swap x y M)⟩
      rcases List.mem_cons.mp (p.mem_iff.mp hz) with e | e
      · rw [e]; omega
      · exact h'.1 z e
theorem pt_srt : ∀ (L : List lo_T), ∃ M, lo_S L M
  | [] => ⟨[], lo_S_nil⟩
  | x :: L => by
    obtain ⟨M, s, p⟩ := pt_srt L
    obtain ⟨M', s', p'⟩ := pt_ins x M s
    exact ⟨M', s', p'.trans (p.cons x)⟩
noncomputable def pt_lc (L : List lo_T) : List (Int × Int) := lo_L (lo_J (Classical.epsilon (fun M => lo_S L M)))
theorem pt_lc_is {L M : List lo_T} (h : lo_S L M) (ho : lo_ok M) : pt_lc L = lo_L (lo_J M) := by
  have q : lo_S L (Classical.epsilon (fun M => lo_S L M)) := Classical.epsilon_spec (p := fun M => lo_S L M) ⟨M, h⟩
  unfold pt_lc
  rw [lo_J_perm h.1 q.1 ho (h.2.trans q.2.symm)]
theorem pt_lc_pm {L L' : List lo_T} (p : L.Perm L') (ho : lo_ok L) : pt_lc L = pt_lc L' := by
  obtain ⟨M, h⟩ := pt_srt L
  have hM : lo_ok M := fun x hx => ho x (h.2.mem_iff.mp hx)
  rw [pt_lc_is h hM, pt_lc_is (lo_S_cg h p) hM]
theorem lo_Q_lc {n r : Int} {s : Int → Int} {Ez : Nat → Nat → Int} {EF : Nat → Nat → Int → Int} {PL : List (Int × Int)} (h : lo_Q n s Ez EF r PL) (hH : lo_H n Ez EF) : PL = pt_lc (lo_row s (lo_P Ez EF) r n.toNat) := by
  obtain ⟨M, a, b⟩ := h
  rw [b, pt_lc_is a (fun x hx => ?_)]
  have hv : lo_v x := lo_row_all (V := lo_v) _ (fun e c d => (hH e c (by omega)).2) x (a.2.mem_iff.mp hx)
  exact hv.2.1
theorem sn_g_rg (l : List Int) : sn_g l = 0 ∨ sn_g l = 1 ∨ 97 ≤ sn_g l := by
  cases l with
  | nil => exact Or.inl rfl
  | cons a l =>
    show (if a < 97 then 1 else a) = 0 ∨ (if a < 97 then 1 else a) = 1 ∨ 97 ≤ (if a < 97 then 1 else a)
    split <;> omega
/-- the words to see, the locators, the group of a row of the class -/
noncomputable def pt_pE (n : Int) (Ez : Nat → Nat → Int) (EF : Nat → Nat → Int → Int) (r : Int) : List Int := pt_bt pt_lo 44 (pt_lc (lo_row (rs_sE Ez) (lo_P Ez EF) r n.toNat))
def pt_sE (n : Int) (Ez : Nat → Nat → Int) (EF : Nat → Nat → Int → Int) (r : Int) : List Int := pt_bt (pt_wd Ez EF) 59 (sn_r (rs_sE Ez) (sn_c Ez) (sn_f EF) r n.toNat)
def pt_gE (lv ab : Int → Int) (Ez : Nat → Nat → Int) (EF : Nat → Nat → Int → Int) (r : Int) : Int := sn_g (kf_ls (EF ((rs_w lv ab (rs_sE Ez) r 0 + 1).toNat) 2) 0 (Ez ((rs_w lv ab (rs_sE Ez) r 0 + 1).toNat) 2).toNat)
def pt_lE (Ez : Nat → Nat → Int) (r : Int) : Int := Ez ((r + 1).toNat) 7
noncomputable def pt_PE (lv ab f : Int → Int) (m n : Int) (Ez : Nat → Nat → Int) (EF : Nat → Nat → Int → Int) : Int → Int → List Int := pt_P f m (pt_wd Ez EF) (pt_pE n Ez EF) (pt_sE n Ez EF) (pt_gE lv ab Ez EF)
noncomputable def pt_aE (lv ab f R : Int → Int) (m n : Int) (Ez : Nat → Nat → Int) (EF : Nat → Nat → Int → Int) : Nat → List Int := pt_al (pt_PE lv ab f m n Ez EF) (pt_lE Ez) (pt_gE lv ab Ez EF) R
/-- the same of the reference -/
def pt_wM (F : Nat → Int → Int) (e : Int) : List Int := kf_ls (kf_sg F e) 0 (F 5 e).toNat
noncomputable def pt_pM (n : Int) (F : Nat → Int → Int) (r : Int) : List Int := pt_bt pt_lo 44 (pt_lc (lo_row (F 17) (lo_R F) r n.toNat))
def pt_sM (n : Int) (F : Nat → Int → Int) (r : Int) : List Int := pt_bt (pt_wM F) 59 (sn_r (F 17) (F 13) (wr_se F) r n.toNat)
def pt_gM (I : Nat → Int) (F : Nat → Int → Int) (r : Int) : Int := sn_g (kf_ky I F (rs_w (F 2) (F 3) (F 17) r 0))
noncomputable def pt_PM (I : Nat → Int) (F : Nat → Int → Int) : Int → Int → List Int := pt_P (F 36) (I 37) (pt_wM F) (pt_pM (I 1) F) (pt_sM (I 1) F) (pt_gM I F)
noncomputable def pt_aM (I : Nat → Int) (F : Nat → Int → Int) : Nat → List Int := pt_al (pt_PM I F) (F 2) (pt_gM I F) (F 18)
theorem sn_ad_mem {l : List Int} {x y : Int} (h : y ∈ sn_ad l x) : y ∈ l ∨ y = x := by
  unfold sn_ad at h
  split at h
  · exact Or.inl h
  · rcases List.mem_append.mp h with h | h
    · exact Or.inl h
    · exact Or.inr (List.mem_singleton.mp h)
theorem sn_s_mem {s : Int → Int} {se : Int → Int → Int} {e : Int} {l : List Int} {A : Int → Prop} (hl : ∀ x, x ∈ l → A x) : ∀ (m : Nat), (∀ k : Int, 0 ≤ k → k < m → A (s (se e k))) → ∀ x, x ∈ sn_s s se e l m → A x
  | 0, _, x, hx => hl x hx
  | m + 1, h, x, hx => by
    rcases sn_ad_mem (show x ∈ sn_ad (sn_s s se e l m) (s (se e m)) from hx) with h9 | h9
    · exact sn_s_mem hl m (fun k a b => h k a (by omega)) x h9
    · rw [h9]; exact h m (by omega) (by omega)
theorem sn_r_mem {s sn : Int → Int} {se : Int → Int → Int} {r n : Int} (hs : ∀ e, 0 ≤ e → e < n → 0 ≤ s e ∧ s e ≤ e) (hse : ∀ e, 0 ≤ e → e < n → ∀ k, 0 ≤ k → k < sn e → 0 ≤ se e k ∧ se e k < n) : ∀ (m : Nat), (m : Int) ≤ n → ∀ x, x ∈ sn_r s sn se r m → 0 ≤ x ∧ x < n
  | 0, _, x, hx => absurd hx List.not_mem_nil
  | m + 1, h, x, hx => by
    have hx' : x ∈ (if s m = r then sn_s s se m (sn_r s sn se r m) (sn m).toNat else sn_r s sn se r m) := hx
    split at hx'
    · refine sn_s_mem (A := fun x => 0 ≤ x ∧ x < n) (sn_r_mem hs hse m (by omega)) (sn m).toNat (fun k a b => ?_) x hx'
      have q := hse m (by omega) (by omega) k a (by omega)
      have q2 := hs _ q.1 q.2
      show 0 ≤ s (se m k) ∧ s (se m k) < n
      omega
    · exact sn_r_mem hs hse m (by omega) x hx'
theorem pt_ls_at {f : Int → Int} {n i : Int} {A : Int → Prop} (h : ∀ x, x ∈ kf_ls f 0 n.toNat → A x) (h0 : 0 ≤ i) (h1 : i < n) : A (f i) := h _ (kf_ls_mem.mpr ⟨i, h0, by omega, rfl⟩)
/-- a byte, as a number from 0 on -/
def pt_u (x : Int) : Int := (iz x &&& iz 255).toInt
theorem pt_b_nar (c : Int) : (vp_nar .byte (iz (pt_b c))).toInt = pt_b c := by
  have h : ∀ y : Int8, y.toInt32.toInt8 = y := fun y => by simp
  have e : ∀ x : Int32, vp_nar .byte x = x.toInt8.toInt32 := fun x => rfl
  unfold pt_b
  rw [e, e, iz_self, iz_self, h, h]
theorem pt_h_nar {X : List Int} {f : Int → Int} {z tl : Int} (h : pt_h (pt_l X) f z tl) {i : Int} (h0 : 0 ≤ i) (h1 : i < z) : (vp_nar .byte (iz (f i))).toInt = f i := by
  have q : f i ∈ kf_ls f 0 z.toNat := kf_ls_mem.mpr ⟨i, h0, by omega, rfl⟩
  rw [h.1] at q
  obtain ⟨c, -, e⟩ := List.mem_map.mp (List.mem_of_mem_take q)
  rw [← e]
  exact pt_b_nar c
theorem pt_h_cp {X : List Int} {f g : Int → Int} {z tl : Int} (h : pt_h X f z tl) (hg : ∀ i, 0 ≤ i → i < z → g i = f i) : pt_h X g z tl := by
  refine ⟨?_, h.2⟩
  rw [← h.1]
  exact kf_ls_congr _ _ (fun j a b => hg j a (by have := h.2.1; omega))
/-- a locator by its kind and numbers -/
theorem pt_lo_kd {kd fr to : Int} (h1 : 0 ≤ fr ∧ fr ≤ 99999) (h2 : 0 ≤ to ∧ to ≤ 99999) : pt_lo (100000 * kd + fr, 100000 * kd + to) = pt_pg kd fr ++ (if to = fr then [] else 45 :: pt_pg kd to) := by
  unfold pt_lo
  show pt_pg ((100000 * kd + fr) / 100000) ((100000 * kd + fr) % 100000) ++ (if 100000 * kd + to = 100000 * kd + fr then [] else 45 :: pt_pg ((100000 * kd + to) / 100000) ((100000 * kd + to) % 100000)) = _
  rw [show (100000 * kd + fr) / 100000 = kd by omega, show (100000 * kd + fr) % 100000 = fr by omega, show (100000 * kd + to) / 100000 = kd by omega, show (100000 * kd + to) % 100000 = to by omega]
  congr 1
  by_cases c : to = fr
  · rw [if_pos c, if_pos (by omega)]
  · rw [if_neg c, if_neg (by omega)]
/-- of what is joined the begin is not behind the end -/
theorem lo_go_le : ∀ (l : List lo_T) (c : lo_T), c.1 ≤ c.2.1 → (∀ x, x ∈ l → x.1 ≤ x.2.1) → ∀ d, d ∈ lo_go c l → d.1 ≤ d.2.1
  | [], c, hc, _, d, hd => by rw [List.mem_singleton.mp hd]; exact hc
  | x :: l, c, hc, hl, d, hd => by
    have hd' : d ∈ (if x.1 ≤ c.2.1 + 1 then lo_go (lo_jn c x) l else c :: lo_go x l) := hd
    have hx := hl x (List.mem_cons_self ..)
    have hl' : ∀ y, y ∈ l → y.1 ≤ y.2.1 := fun y hy => hl y (List.mem_cons_of_mem _ hy)
    split at hd'
    · refine lo_go_le l _ ?_ hl' d hd'
      show c.1 ≤ lo_mx c.2.1 x.2.1
      unfold lo_mx
      split <;> omega
    · rcases List.mem_cons.mp hd' with e | e
      · rw [e]; exact hc
      · exact lo_go_le l x hx hl' d e
theorem lo_J_le {l : List lo_T} (h : lo_ok l) : ∀ d, d ∈ lo_J l → d.1 ≤ d.2.1 := by
  cases l with
  | nil => exact fun d hd => absurd hd List.not_mem_nil
  | cons x l => exact lo_go_le l x (h x (List.mem_cons_self ..)) (fun y hy => h y (List.mem_cons_of_mem _ hy))
theorem lo_W_le {c : lo_T} (h : c.1 ≤ c.2.1) : ∀ y, y ∈ lo_W c → y.1 ≤ y.2 := by
  intro y hy
  unfold lo_W at hy
  split at hy
  · rw [List.mem_singleton.mp hy]; exact h
  · split at hy
    · rw [List.mem_singleton.mp hy]; exact Int.le_refl _
    · rcases List.mem_cons.mp hy with e | e
      · rw [e]; exact Int.le_refl _
      · rw [List.mem_singleton.mp e]; exact Int.le_refl _
theorem lo_L_le : ∀ {l : List lo_T}, (∀ d, d ∈ l → d.1 ≤ d.2.1) → ∀ y, y ∈ lo_L l → y.1 ≤ y.2
  | [], _, y, hy => absurd hy List.not_mem_nil
  | c :: l, h, y, hy => by
    rcases List.mem_append.mp (show y ∈ lo_W c ++ lo_L l from hy) with e | e
    · exact lo_W_le (h c (List.mem_cons_self ..)) y e
    · exact lo_L_le (fun d hd => h d (List.mem_cons_of_mem _ hd)) y e
/-- a locator of the reference, as it is found -/
theorem pt_fd {M : List lo_T} {kd fr to : Int} {j : Nat} (hv : ∀ x, x ∈ M → lo_v x) (h : (lo_L (lo_J M))[j]? = some (100000 * kd + fr, 100000 * kd + to)) (h1 : 0 ≤ fr ∧ fr ≤ 99999) (h2 : 0 ≤ to ∧ to ≤ 99999) : (0 ≤ kd ∧ kd ≤ 2) ∧ (1 ≤ fr ∧ fr ≤ to) ∧ (kd = 0 → to ≤ 3999) ∧ (kd = 2 → to ≤ 702) := by
  have hm := List.mem_of_getElem? h
  have a := lo_L_all (A := pt_v) (lo_J_all (A := pt_v) (fun x hx => lo_v_pv (hv x hx))) _ hm
  have b := lo_L_le (lo_J_le (fun x hx => (hv x hx).2.1)) _ hm
  have a1 : pt_v (100000 * kd + fr) := a.1
  have a2 : pt_v (100000 * kd + to) := a.2
  have b' : 100000 * kd + fr ≤ 100000 * kd + to := b
  unfold pt_v at a1 a2
  omega
theorem pt_tk {A : Type} {l : List A} {j : Int} {y : A} (h0 : 0 ≤ j) (h : l[j.toNat]? = some y) : l.take (j + 1).toNat = l.take j.toNat ++ [y] := by
  rw [show (j + 1).toNat = j.toNat + 1 by omega, List.take_add_one, h]
  rfl
theorem pt_l_cons (c : Int) (l : List Int) : pt_l (c :: l) = pt_b c :: pt_l l := rfl
