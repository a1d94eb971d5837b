/-! class and reference: print -/
theorem pt_h_same {X : List Int} {f g : Int → Int} {z w t u : Int} (h : pt_h X f z t) (k : pt_h X g w u) : z = w ∧ ∀ i, 0 ≤ i → i < z → f i = g i := by
  have h1 := pt_h_z h
  have k1 := pt_h_z k
  have h2 := h.2.1
  have k2 := k.2.1
  have e : z = w := by omega
  refine ⟨e, fun i a b => ?_⟩
  have q : kf_ls f 0 z.toNat = kf_ls g 0 z.toNat := by
    rw [h.1, e, k.1]
  have r := congrArg (fun l => l[i.toNat]?) q
  have r1 : (kf_ls f 0 z.toNat)[i.toNat]? = (kf_ls g 0 z.toNat)[i.toNat]? := r
  rw [kf_ls_at f _ _ _ (by omega), kf_ls_at g _ _ _ (by omega), show (0 : Int) + ((i.toNat : Nat) : Int) = i by omega] at r1
  exact Option.some.inj r1
section QST
variable {k : Int} {n n' : Nat → Nat} {z z' : Nat → Int} {F F' : Nat → Int → Int} {N N' : Nat} {En En' : Nat → Nat → Nat} {Ez Ez' : Nat → Nat → Int} {EF EF' : Nat → Nat → Int → Int} {fo' : Nat → Int64} {I J : Nat → Int} {Fm Gm : Nat → Int → Int} {q rr : Int}
def lawY (z : Nat → Int) (F : Nat → Int → Int) (Fm : Nat → Int → Int) : Prop := ∀ i, 0 ≤ i → i < z 3 → F 3 i = Fm 36 i
def lawO (z : Nat → Int) (F : Nat → Int → Int) (I : Nat → Int) (Fm : Nat → Int → Int) : Prop := z 10 = I 40 ∧ ∀ i, 0 ≤ i → i < z 10 → F 10 i = Fm 39 i
theorem lawO.eq (h : lawO z F I Fm) (a : z' 10 = z 10) (b : F' 10 = F 10) (c : J 40 = I 40) (d : Gm 39 = Fm 39) : lawO z' F' J Gm := by
  unfold lawO
  rw [a, b, c, d]
  exact h
theorem lawO.keep {S T : List Nat} (h : lawO z F I Fm) (hx : xFr S T z F z' F') (h1 : 10 ∉ S) (h2 : 10 ∉ T) (c : J 40 = I 40) (d : Gm 39 = Fm 39) : lawO z' F' J Gm := h.eq (hx.1 10 h1) (hx.2 10 h2) c d
theorem lawY.keep {S T : List Nat} (h : lawY z F Fm) (hx : xFr S T z F z' F') (h1 : 3 ∉ S) (h2 : 3 ∉ T) (f36 : Gm 36 = Fm 36) : lawY z' F' Gm := by
  intro i a b
  rw [hx.1 3 h1] at b
  rw [hx.2 3 h2, f36]
  exact h i a b
theorem wk_style7 {p0 : Int} (hc : N' = N ∧ ((q = 0 ∧ xFr [3] [3] z F z' F' ∧ eFr [] [] En Ez EF En' Ez' EF' ∧ ∃ v : Int, fo' 0 = Int32.toInt64 (iz v) ∧ (((0 ≤ p0 ∧ p0 ≤ 127) ∧ ((p0 = 0 ∧ v = 0 ∧ z' 3 = 0) ∨ (0 < p0 ∧ v = z 3 + 1 ∧ z' 3 = z 3 + 1))) ∧ (0 < p0 → F' 3 (z 3) = p0 ∧ ∀ i, 0 ≤ i → i < z 3 → F' 3 i = F 3 i))) ∨ ((xFr [] [] z F z' F' ∧ eFr [] [] En Ez EF En' Ez' EF') ∧ ((q = 1 ∧ (p0 < 0 ∨ 127 < p0)) ∨ (q = 2 ∧ (80 ≤ z 3)))))) : N' = N ∧ ((q = 0 ∧ xFr [3] [3] z F z' F' ∧ eFr [] [] En Ez EF En' Ez' EF' ∧ ∃ v : Int, fo' 0 = Int32.toInt64 (iz v) ∧ ((0 ≤ p0 ∧ p0 ≤ 127) ∧ ((p0 = 0 ∧ v = 0 ∧ z' 3 = 0) ∨ (0 < p0 ∧ v = z 3 + 1 ∧ z' 3 = z 3 + 1)))) ∨ ((xFr [] [] z F z' F' ∧ eFr [] [] En Ez EF En' Ez' EF') ∧ ((q = 1 ∧ (p0 < 0 ∨ 127 < p0)) ∨ (q = 2 ∧ (80 ≤ z 3))))) := by
  obtain ⟨hN, hc⟩ := hc
  rcases hc with ⟨c1, hx, he, v, c2, c3, -⟩ | c3
  · exact ⟨hN, Or.inl ⟨c1, hx, he, v, c2, c3⟩⟩
  · exact ⟨hN, Or.inr c3⟩
theorem sy_style {p0 : Int} (hR : lawR z Ez EF I Fm) (hY : lawY z F Fm) (hc : N' = N ∧ ((q = 0 ∧ xFr [3] [3] z F z' F' ∧ eFr [] [] En Ez EF En' Ez' EF' ∧ ∃ v : Int, fo' 0 = Int32.toInt64 (iz v) ∧ (((0 ≤ p0 ∧ p0 ≤ 127) ∧ ((p0 = 0 ∧ v = 0 ∧ z' 3 = 0) ∨ (0 < p0 ∧ v = z 3 + 1 ∧ z' 3 = z 3 + 1))) ∧ (0 < p0 → F' 3 (z 3) = p0 ∧ ∀ i, 0 ≤ i → i < z 3 → F' 3 i = F 3 i))) ∨ ((xFr [] [] z F z' F' ∧ eFr [] [] En Ez EF En' Ez' EF') ∧ ((q = 1 ∧ (p0 < 0 ∨ 127 < p0)) ∨ (q = 2 ∧ (80 ≤ z 3)))))) (hm : (rr = 0 ∧ Gm = Fm ∧ J = va_up I 0 1 ∧ (p0 < 0 ∨ 127 < p0)) ∨ (rr = 0 ∧ Gm = Fm ∧ J = va_up (va_up I 0 0) 37 0 ∧ p0 = 0) ∨ (Gm = va_up Fm 36 (upI (Fm 36) (I 37) p0) ∧ J = va_up (va_up I 0 0) 37 (I 37 + 1) ∧ rr = I 37 + 1 ∧ 0 < p0 ∧ p0 ≤ 127)) (g1 : J 0 = q) : lawY z' F' Gm := by
  have h3 := hR.1
  obtain ⟨hN, hc⟩ := hc
  rcases hc with ⟨c1, hx, he, v, c2, ⟨hr, c3⟩, c4⟩ | ⟨⟨hx, he⟩, c5⟩
  · rcases hm with ⟨a, rfl, rfl, d⟩ | ⟨a, rfl, rfl, d⟩ | ⟨rfl, rfl, a, d, e⟩
    · exact absurd (show (1 : Int) = q from g1) (by omega)
    · intro i a9 b9
      omega
    · obtain ⟨d1, d2⟩ := c4 d
      intro i a9 b9
      show F' 3 i = upI (Fm 36) (I 37) p0 i
      by_cases c : i = I 37
      · rw [c, upI_self, ← h3]
        exact d1
      · rw [upI_ne _ _ c, d2 i a9 (by omega)]
        exact hY i a9 (by omega)
  · rcases hm with ⟨a, rfl, rfl, d⟩ | ⟨a, rfl, rfl, d⟩ | ⟨rfl, rfl, a, d, e⟩
    · exact hY.keep hx (by decide) (by decide) rfl
    · exact absurd (show (0 : Int) = q from g1) (by rcases c5 with c5 | c5 <;> omega)
    · exact absurd (show (0 : Int) = q from g1) (by rcases c5 with c5 | c5 <;> omega)
theorem wk_print7 (hc : N' = N ∧ ((q = 0 ∧ xFr [0, 1, 2, 4, 5, 6, 7, 8, 9, 10, 11, 15, 16, 22, 23] [0, 1, 2, 4, 5, 6, 7, 8, 9, 10, 11] z F z' F' ∧ eFr [10] [] En Ez EF En' Ez' EF' ∧ ∃ v : Int, fo' 0 = Int32.toInt64 (iz v) ∧ (rs_RK z' F' Ez' (Fm 2) (Fm 3) (rs_wd Fm) (kf_oc I Fm) ∧ lo_K z' F' Ez' EF' ∧ ((0 ≤ pt_ft (F 3) (z 3) (z 3).toNat 0 0 ∧ v = -1 - pt_ft (F 3) (z 3) (z 3).toNat 0 0 ∧ z' 10 = z 10 ∧ F' 10 = F 10) ∨ (pt_ft (F 3) (z 3) (z 3).toNat 0 0 = -1 ∧ z' 15 = 1 ∧ v = z' 10 ∧ pt_h (pt_l (pt_aE (Fm 2) (Fm 3) (F' 3) (F' 1) (z' 3) (z' 12) Ez' EF' (z' 1).toNat)) (F' 10) (z' 10) 0)))) ∨ ((xFr [0, 1, 2, 4, 5, 6, 7, 8, 9, 10, 11, 15, 16, 22, 23] [0, 1, 2, 4, 5, 6, 7, 8, 9, 10, 11] z F z' F' ∧ eFr [10] [] En Ez EF En' Ez' EF' ∧ (rs_RK z' F' Ez' (Fm 2) (Fm 3) (rs_wd Fm) (kf_oc I Fm) ∧ lo_K z' F' Ez' EF' ∧ z' 15 = 1 ∧ pt_ft (F 3) (z 3) (z 3).toNat 0 0 = -1 ∧ 6000 < (pt_aE (Fm 2) (Fm 3) (F' 3) (F' 1) (z' 3) (z' 12) Ez' EF' (z' 1).toNat).length ∧ z' 10 = z 10 ∧ F' 10 = F 10)) ∧ ((q = 1 ∧ (True)))))) : N' = N ∧ ((q = 0 ∧ xFr [0, 1, 2, 4, 5, 6, 7, 8, 9, 10, 11, 15, 16, 22, 23] [0, 1, 2, 4, 5, 6, 7, 8, 9, 10, 11] z F z' F' ∧ eFr [10] [] En Ez EF En' Ez' EF' ∧ ∃ v : Int, fo' 0 = Int32.toInt64 (iz v) ∧ (rs_RK z' F' Ez' (Fm 2) (Fm 3) (rs_wd Fm) (kf_oc I Fm) ∧ lo_K z' F' Ez' EF')) ∨ ((xFr [0, 1, 2, 4, 5, 6, 7, 8, 9, 10, 11, 15, 16, 22, 23] [0, 1, 2, 4, 5, 6, 7, 8, 9, 10, 11] z F z' F' ∧ eFr [10] [] En Ez EF En' Ez' EF' ∧ (rs_RK z' F' Ez' (Fm 2) (Fm 3) (rs_wd Fm) (kf_oc I Fm) ∧ lo_K z' F' Ez' EF')) ∧ ((q = 1 ∧ (True))))) := by
  obtain ⟨hN, hc⟩ := hc
  rcases hc with ⟨c1, hx, he, v, c2, c3, c4, -⟩ | ⟨⟨hx, he, c3, c4, -⟩, c5⟩
  · exact ⟨hN, Or.inl ⟨c1, hx, he, v, c2, c3, c4⟩⟩
  · exact ⟨hN, Or.inr ⟨⟨hx, he, c3, c4⟩, c5⟩⟩
/-- what is written of a row is the same -/
theorem pt_same {r : Int} (hI : mIk k I Fm) (hR : lawR z Ez EF I Fm) (hQ : lawK Ez EF I Fm) (hW : lawW z F Ez I Fm) (hV : lawS Ez EF I Fm) (hPg : lawP Ez EF I Fm) (he : eFr [10] [] En Ez EF En' Ez' EF') (hw : mWk I Fm J Gm) (hs : ∀ e, 0 ≤ e → e < I 1 → (rs_sE Ez' e = Gm 17 e ∧ Fm 2 (rs_sE Ez' e) = Fm 2 e) ∧ 0 ≤ rs_sE Ez' e ∧ rs_sE Ez' e ≤ e) (er0 : 0 ≤ r) (er1 : r < I 1) : pt_lE Ez' r = Gm 2 r ∧ pt_gE (Fm 2) (Fm 3) Ez' EF' r = pt_gM J Gm r ∧ pt_wd Ez' EF' r = pt_wM Gm r ∧ pt_pE (I 1) Ez' EF' r = pt_pM (J 1) Gm r ∧ pt_sE (I 1) Ez' EF' r = pt_sM (J 1) Gm r := by
  have hf := hw.2.1
  have hL := hW.lv hI
  have e1 : J 1 = I 1 := hf.1 1 (by decide)
  have hwd : ∀ e, 0 ≤ e → e < I 1 → pt_wd Ez' EF' e = pt_wM Gm e := fun e a b => by
    obtain ⟨k1, -⟩ := hQ e a b
    have k5 := (hR.2.2.2.2 e a b).2.1
    have h5 := hI.1.hn e
    unfold pt_wd pt_wM kf_sg
    rw [(he.2 _ 0 (by decide)).2, he.1 _ 0 (by decide), k5, hf.2 5 (by decide), hf.2 4 (by decide)]
    exact kf_ls_congr _ _ (fun j c d => k1 j c (by omega))
  refine ⟨?_, ?_, hwd r er0 er1, ?_, ?_⟩
  · show Ez' _ 7 = _
    rw [he.1 _ 7 (by decide), hf.2 2 (by decide)]
    exact (hR.2.2.2.2 _ er0 er1).1
  · have ew : rs_w (Fm 2) (Fm 3) (rs_sE Ez') r 0 = rs_w (Gm 2) (Gm 3) (Gm 17) r 0 := by
      rw [hf.2 2 (by decide), hf.2 3 (by decide)]
      have l0 := hL r er0 er1
      unfold rs_w
      by_cases c0 : Fm 2 r = 0
      · rw [if_pos c0, if_pos c0]
      · have a0 := hs (Fm 3 r) (by omega) (by omega)
        rw [if_neg c0, if_neg c0]
        by_cases c1 : Fm 2 r = 0 + 1
        · rw [if_pos c1, if_pos c1, a0.1.1]
        · rw [if_neg c1, if_neg c1]
          by_cases c2 : Fm 2 r = 0 + 2
          · rw [if_pos c2, if_pos c2, ← a0.1.1]
            have l1 := hL (rs_sE Ez' (Fm 3 r)) a0.2.1 (by omega)
            have a1 := hs (Fm 3 (rs_sE Ez' (Fm 3 r))) (by omega) (by omega)
            rw [a1.1.1]
          · rw [if_neg c2, if_neg c2]
    have hrg : 0 ≤ rs_w (Gm 2) (Gm 3) (Gm 17) r 0 ∧ rs_w (Gm 2) (Gm 3) (Gm 17) r 0 < I 1 := by
      rw [← ew]
      have l0 := hL r er0 er1
      unfold rs_w
      by_cases c0 : Fm 2 r = 0
      · rw [if_pos c0]; exact ⟨er0, er1⟩
      · have a0 := hs (Fm 3 r) (by omega) (by omega)
        rw [if_neg c0]
        by_cases c1 : Fm 2 r = 0 + 1
        · rw [if_pos c1]; omega
        · rw [if_neg c1, if_pos (by omega)]
          have l1 := hL (rs_sE Ez' (Fm 3 r)) a0.2.1 (by omega)
          have a2 := hs (Fm 3 (rs_sE Ez' (Fm 3 r))) (by omega) (by omega)
          omega
    unfold pt_gE pt_gM
    rw [ew, he.1 _ 2 (by decide), (he.2 _ 2 (by decide)).2, (hQ _ hrg.1 hrg.2).2.2.2.2]
    unfold kf_ky
    rw [hf.1 14 (by decide), hf.1 15 (by decide), kf_sg_fr (hf.2 4 (by decide)), hf.2 5 (by decide)]
  · have hV9 := hPg.ask he (by decide) (by decide) hw
    unfold pt_pE pt_pM
    congr 1
    refine pt_lc_pm ?_ (fun x hx => ?_)
    · rw [e1]
      exact lo_row_perm _ (fun e a b => ⟨(hs e a (by omega)).1.1, (hV9 e a (by omega)).2.1⟩)
    · have hv9 : lo_v x := lo_row_all (V := lo_v) _ (fun e a b y hy => (hV9 e a (by omega)).2.2.1 y ((hV9 e a (by omega)).2.1.mem_iff.mp hy)) x hx
      exact hv9.2.1
  · have hc1 := hI.1.hc
    have hse : sn_r (rs_sE Ez') (sn_c Ez') (sn_f EF') r (I 1).toNat = sn_r (Gm 17) (Gm 13) (wr_se Gm) r (I 1).toNat := by
      have hc9 : ∀ (m : Nat), (m : Int) ≤ I 1 → sn_r (Gm 17) (sn_c Ez') (sn_f EF') r m = sn_r (Gm 17) (Gm 13) (wr_se Gm) r m := fun m => by
        induction m with
        | zero => intro _; rfl
        | succ m ih =>
          intro hm9
          obtain ⟨s1, s2⟩ := hV m (by omega) (by omega)
          have hmy := hI.1.hmy m
          have e3 : sn_c Ez' m = Fm 13 m := by show Ez' _ 3 = _; rw [he.1 _ 3 (by decide)]; exact s1
          show (if Gm 17 m = r then sn_s (Gm 17) (sn_f EF') m (sn_r (Gm 17) (sn_c Ez') (sn_f EF') r m) (sn_c Ez' m).toNat else sn_r (Gm 17) (sn_c Ez') (sn_f EF') r m) = (if Gm 17 m = r then sn_s (Gm 17) (wr_se Gm) m (sn_r (Gm 17) (Gm 13) (wr_se Gm) r m) (Gm 13 m).toNat else sn_r (Gm 17) (Gm 13) (wr_se Gm) r m)
          rw [ih (by omega), e3, hf.2 13 (by decide)]
          have hk9 : ∀ (j : Nat), (j : Int) ≤ Fm 13 m → sn_s (Gm 17) (sn_f EF') m (sn_r (Gm 17) (Gm 13) (wr_se Gm) r m) j = sn_s (Gm 17) (wr_se Gm) m (sn_r (Gm 17) (Gm 13) (wr_se Gm) r m) j := fun j => by
            induction j with
            | zero => intro _; rfl
            | succ j ihj =>
              intro hj
              have e4 : sn_f EF' m j = wr_se Gm m j := by
                show EF' _ 3 j = Gm 12 (5 * m + j)
                rw [(he.2 _ 3 (by decide)).2, hf.2 12 (by decide)]
                exact s2 j (by omega) (by omega)
              show sn_ad (sn_s (Gm 17) (sn_f EF') m _ j) (Gm 17 (sn_f EF' m j)) = sn_ad (sn_s (Gm 17) (wr_se Gm) m _ j) (Gm 17 (wr_se Gm m j))
              rw [ihj (by omega), e4]
          rw [hf.2 13 (by decide)] at hk9
          rw [hk9 (Fm 13 m).toNat (by omega)]
      rw [sn_r_cg (n := I 1) (fun e a b => (hs e a b).1.1) (fun e a b k c d => by
        have s9 := hV e a b
        have e3 : sn_c Ez' e = Fm 13 e := by show Ez' _ 3 = _; rw [he.1 _ 3 (by decide)]; exact s9.1
        rw [e3] at d
        have e4 : sn_f EF' e k = Fm 12 (5 * e + k) := by show EF' _ 3 k = _; rw [(he.2 _ 3 (by decide)).2]; exact s9.2 k c d
        rw [e4]
        exact hI.1.hse e k a b c d) (I 1).toNat (by omega)]
      exact hc9 (I 1).toNat (by omega)
    have hsH : sn_H (I 1) Ez' EF' := fun e a b k c d => by
      have s9 := hV e a b
      rw [he.1 _ 3 (by decide), s9.1] at d
      rw [(he.2 _ 3 (by decide)).2, s9.2 k c d]
      exact hI.1.hse e k a b c d
    unfold pt_sE pt_sM
    rw [e1, ← hse]
    exact pt_bt_cg (fun y hy => by
      have q9 := sn_r_mem (fun e a b => (hs e a b).2) hsH (I 1).toNat (by omega) y hy
      exact hwd y q9.1 q9.2)
theorem lawS.sn7 (h : lawS Ez EF I Fm) (hI : mIk k I Fm) (h12 : z 12 = I 1) : sn_H (z 12) Ez EF := by
  intro e a b
  rw [h12] at b ⊢
  obtain ⟨s1, s2⟩ := h e a b
  intro k c d
  rw [s2 k c (by omega)]
  exact hI.1.hse e k a b c (by omega)
def lawR6 (z : Nat → Int) (F : Nat → Int → Int) (Ez : Nat → Nat → Int) (EF : Nat → Nat → Int → Int) (I : Nat → Int) (Fm : Nat → Int → Int) : Prop := lawR5 z F Ez EF I Fm ∧ lawY z F Fm
theorem sy_sign {p0 p1 : Int} (hY : lawY z F Fm) (hc : N' = N ∧ ((q = 0 ∧ xFr [15, 16] [] z F z' F' ∧ eFr [0, 1, 2] [0, 1, 2] En Ez EF En' Ez' EF' ∧ ∃ v : Int, fo' 0 = Int32.toInt64 (iz v) ∧ (((((0 ≤ p0 ∧ p0 < z 12) ∧ (0 ≤ p1 ∧ p1 ≤ 255) ∧ Ez ((p0 + 1).toNat) 0 < 20 ∧ v = Ez ((p0 + 1).toNat) 0 + 1 ∧ Ez' ((p0 + 1).toNat) 0 = Ez ((p0 + 1).toNat) 0 + 1 ∧ (∀ j, j ≠ ((p0 + 1).toNat) → Ez' j = Ez j ∧ EF' j = EF j)) ∧ (iAdd 20 (Ez ((p0 + 1).toNat) 0) (EF ((p0 + 1).toNat) 0) (Ez' ((p0 + 1).toNat) 0) (EF' ((p0 + 1).toNat) 0) p1 ∧ iAdd 20 (Ez ((p0 + 1).toNat) 1) (EF ((p0 + 1).toNat) 1) (Ez' ((p0 + 1).toNat) 1) (EF' ((p0 + 1).toNat) 1) (kf_rk p1) ∧ kf_ls (EF' ((p0 + 1).toNat) 2) 0 (Ez' ((p0 + 1).toNat) 2).toNat = kf_kI (EF' ((p0 + 1).toNat) 0) (Ez' ((p0 + 1).toNat) 0) (z 13) (z 14) 0 0 0)) ∧ z' 15 = 0) ∧ z' 16 = -1)) ∨ ((xFr [] [] z F z' F' ∧ eFr [] [] En Ez EF En' Ez' EF') ∧ ((q = 1 ∧ (¬ (0 ≤ p0 ∧ p0 < z 12))) ∨ (q = 2 ∧ ((0 ≤ p0 ∧ p0 < z 12) ∧ (p1 < 0 ∨ 255 < p1))) ∨ (q = 3 ∧ ((0 ≤ p0 ∧ p0 < z 12) ∧ (0 ≤ p1 ∧ p1 ≤ 255) ∧ 20 ≤ Ez ((p0 + 1).toNat) 0)))))) (hm : (rr = 0 ∧ Gm = Fm ∧ J = va_up I 0 1 ∧ (p0 < 0 ∨ I 1 ≤ p0)) ∨ (rr = 0 ∧ Gm = Fm ∧ J = va_up I 0 2 ∧ (0 ≤ p0 ∧ p0 < I 1) ∧ (p1 < 0 ∨ 255 < p1)) ∨ (rr = 0 ∧ Gm = Fm ∧ J = va_up I 0 3 ∧ (0 ≤ p0 ∧ p0 < I 1) ∧ (0 ≤ p1 ∧ p1 ≤ 255) ∧ Fm 5 p0 = 20) ∨ (J = va_up (va_up I 0 0) 16 0 ∧ Gm = va_up (va_up Fm 4 (upI (Fm 4) (20 * p0 + Fm 5 p0) p1)) 5 (upI (Fm 5) p0 (Fm 5 p0 + 1)) ∧ rr = Fm 5 p0 + 1 ∧ (0 ≤ p0 ∧ p0 < I 1) ∧ (0 ≤ p1 ∧ p1 ≤ 255) ∧ ¬ Fm 5 p0 = 20)) : lawY z' F' Gm := by
  have hx : ∃ S T : List Nat, xFr S T z F z' F' ∧ 3 ∉ S ∧ 3 ∉ T := by
    obtain ⟨hN, hc⟩ := hc
    rcases hc with ⟨-, hx, -⟩ | ⟨⟨hx, -⟩, -⟩
    · exact ⟨_, _, hx, by decide, by decide⟩
    · exact ⟨_, _, hx, by decide, by decide⟩
  obtain ⟨S, T, hx, d1, d2⟩ := hx
  rcases hm with ⟨m1, rfl, rfl, m2⟩ | ⟨m1, rfl, rfl, m2, m3⟩ | ⟨m1, rfl, rfl, m2, m3, m4⟩ | ⟨rfl, rfl, m1, m2, m3, m4⟩ <;> exact hY.keep hx d1 d2 rfl
theorem sy_rule {p0 p1 : Int} (hY : lawY z F Fm) (hc : N' = N ∧ ((q = 0 ∧ xFr [13, 14, 15, 16] [] z F z' F' ∧ eFr [2] [2] En Ez EF En' Ez' EF' ∧ ∃ v : Int, fo' 0 = Int32.toInt64 (iz v) ∧ (((((p0 = 0 ∧ v = z 13 ∧ z' 13 = p1 ∧ z' 14 = z 14) ∨ (p0 = 1 ∧ v = z 14 ∧ z' 14 = p1 ∧ z' 13 = z 13)) ∧ ((z' 13 = z 13 ∧ z' 14 = z 14 ∧ ∀ j, Ez' j = Ez j ∧ EF' j = EF j) ∨ (∀ j : Nat, 1 ≤ j → (j : Int) ≤ z 12 → kf_ls (EF' j 2) 0 (Ez' j 2).toNat = kf_kI (EF j 0) (Ez j 0) (z' 13) (z' 14) 0 0 0))) ∧ (z' 15 = 0 ∨ ((z' 15 = z 15 ∧ z' 13 = z 13 ∧ z' 14 = z 14 ∧ z' 1 = z 1) ∧ F' 1 = F 1 ∧ ∀ j, Ez' j = Ez j))) ∧ (z' 16 = -1 ∨ (z' 16 = z 16 ∧ z' 15 = z 15)))) ∨ ((xFr [] [] z F z' F' ∧ eFr [] [] En Ez EF En' Ez' EF') ∧ ((q = 1 ∧ (¬ p0 = 0 ∧ ¬ p0 = 1)))))) (hm : (rr = 0 ∧ Gm = Fm ∧ J = va_up I 0 1 ∧ ¬ p0 = 0 ∧ ¬ p0 = 1) ∨ (Gm = Fm ∧ p0 = 0 ∧ rr = I 14 ∧ J = va_up (va_up (va_up (va_up I 0 0) 14 p1) 15 (I 15)) 16 0) ∨ (Gm = Fm ∧ p0 = 1 ∧ rr = I 15 ∧ J = va_up (va_up (va_up (va_up I 0 0) 14 (I 14)) 15 p1) 16 0)) : lawY z' F' Gm := by
  have hx : ∃ S T : List Nat, xFr S T z F z' F' ∧ 3 ∉ S ∧ 3 ∉ T := by
    obtain ⟨hN, hc⟩ := hc
    rcases hc with ⟨-, hx, -⟩ | ⟨⟨hx, -⟩, -⟩
    · exact ⟨_, _, hx, by decide, by decide⟩
    · exact ⟨_, _, hx, by decide, by decide⟩
  obtain ⟨S, T, hx, d1, d2⟩ := hx
  rcases hm with ⟨m1, rfl, rfl, m2, m3⟩ | ⟨rfl, m1, m2, rfl⟩ | ⟨rfl, m1, m2, rfl⟩ <;> exact hY.keep hx d1 d2 rfl
theorem sy_page {p0 p1 p2 : Int} (hY : lawY z F Fm) (hc : N' = N ∧ ((q = 0 ∧ xFr [16] [] z F z' F' ∧ eFr [4, 5, 6] [4, 5, 6] En Ez EF En' Ez' EF' ∧ ∃ v : Int, fo' 0 = Int32.toInt64 (iz v) ∧ (((0 ≤ p0 ∧ p0 < z 12) ∧ (1 ≤ p2 ∧ ((p1 = 0 ∧ p2 ≤ 3999) ∨ (p1 = 1 ∧ p2 ≤ 99999) ∨ (p1 = 2 ∧ p2 ≤ 702))) ∧ Ez ((p0 + 1).toNat) 4 < 20 ∧ v = Ez ((p0 + 1).toNat) 4 + 1 ∧ Ez' ((p0 + 1).toNat) 4 = Ez ((p0 + 1).toNat) 4 + 1 ∧ (∀ i, 0 ≤ i → i < Ez ((p0 + 1).toNat) 4 → EF' ((p0 + 1).toNat) 4 i = EF ((p0 + 1).toNat) 4 i) ∧ (∀ j, j ≠ ((p0 + 1).toNat) → Ez' j = Ez j ∧ EF' j = EF j)) ∧ (iAdd 20 (Ez ((p0 + 1).toNat) 4) (EF ((p0 + 1).toNat) 4) (Ez' ((p0 + 1).toNat) 4) (EF' ((p0 + 1).toNat) 4) (p1 * 100000 + p2) ∧ iAdd 20 (Ez ((p0 + 1).toNat) 5) (EF ((p0 + 1).toNat) 5) (Ez' ((p0 + 1).toNat) 5) (EF' ((p0 + 1).toNat) 5) (p1 * 100000 + p2) ∧ iAdd 20 (Ez ((p0 + 1).toNat) 6) (EF ((p0 + 1).toNat) 6) (Ez' ((p0 + 1).toNat) 6) (EF' ((p0 + 1).toNat) 6) 0) ∧ z' 16 = -1)) ∨ ((xFr [] [] z F z' F' ∧ eFr [] [] En Ez EF En' Ez' EF') ∧ ((q = 1 ∧ (¬ (0 ≤ p0 ∧ p0 < z 12))) ∨ (q = 2 ∧ ((0 ≤ p0 ∧ p0 < z 12) ∧ ¬ (1 ≤ p2 ∧ ((p1 = 0 ∧ p2 ≤ 3999) ∨ (p1 = 1 ∧ p2 ≤ 99999) ∨ (p1 = 2 ∧ p2 ≤ 702))))) ∨ (q = 3 ∧ ((0 ≤ p0 ∧ p0 < z 12) ∧ (1 ≤ p2 ∧ ((p1 = 0 ∧ p2 ≤ 3999) ∨ (p1 = 1 ∧ p2 ≤ 99999) ∨ (p1 = 2 ∧ p2 ≤ 702))) ∧ 20 ≤ Ez ((p0 + 1).toNat) 4)))))) (hm : (rr = 0 ∧ Gm = Fm ∧ J = va_up I 0 1 ∧ (p0 < 0 ∨ I 1 ≤ p0)) ∨ (rr = 0 ∧ Gm = Fm ∧ J = va_up I 0 2 ∧ (0 ≤ p0 ∧ p0 < I 1) ∧ ¬ (1 ≤ p2 ∧ ((p1 = 0 ∧ p2 ≤ 3999) ∨ (p1 = 1 ∧ p2 ≤ 99999) ∨ (p1 = 2 ∧ p2 ≤ 702)))) ∨ (rr = 0 ∧ Gm = Fm ∧ J = va_up I 0 3 ∧ (0 ≤ p0 ∧ p0 < I 1) ∧ (1 ≤ p2 ∧ ((p1 = 0 ∧ p2 ≤ 3999) ∨ (p1 = 1 ∧ p2 ≤ 99999) ∨ (p1 = 2 ∧ p2 ≤ 702))) ∧ Fm 10 p0 + (if 0 < Fm 11 p0 then 1 else 0) = 20) ∨ (J = va_up I 0 0 ∧ Gm = va_up (va_up (va_up (va_up (va_up Fm 6 (upI (Fm 6) (20 * p0 + Fm 10 p0) p1)) 7 (upI (Fm 7) (20 * p0 + Fm 10 p0) p2)) 8 (upI (Fm 8) (20 * p0 + Fm 10 p0) p2)) 9 (upI (Fm 9) (20 * p0 + Fm 10 p0) (vp_nar .boolean (iz 0)).toInt)) 10 (upI (Fm 10) p0 (Fm 10 p0 + 1)) ∧ rr = Fm 10 p0 + (if 0 < Fm 11 p0 then 1 else 0) + 1 ∧ (0 ≤ p0 ∧ p0 < I 1) ∧ (1 ≤ p2 ∧ ((p1 = 0 ∧ p2 ≤ 3999) ∨ (p1 = 1 ∧ p2 ≤ 99999) ∨ (p1 = 2 ∧ p2 ≤ 702))) ∧ ¬ Fm 10 p0 + (if 0 < Fm 11 p0 then 1 else 0) = 20)) : lawY z' F' Gm := by
  have hx : ∃ S T : List Nat, xFr S T z F z' F' ∧ 3 ∉ S ∧ 3 ∉ T := by
    obtain ⟨hN, hc⟩ := hc
    rcases hc with ⟨-, hx, -⟩ | ⟨⟨hx, -⟩, -⟩
    · exact ⟨_, _, hx, by decide, by decide⟩
    · exact ⟨_, _, hx, by decide, by decide⟩
  obtain ⟨S, T, hx, d1, d2⟩ := hx
  rcases hm with ⟨m1, rfl, rfl, m2⟩ | ⟨m1, rfl, rfl, m2, m3⟩ | ⟨m1, rfl, rfl, m2, m3, m4⟩ | ⟨rfl, rfl, m1, m2, m3, m4⟩ <;> exact hY.keep hx d1 d2 rfl
theorem sy_range {p0 p1 p2 : Int} (hY : lawY z F Fm) (hc : N' = N ∧ ((q = 0 ∧ xFr [16] [] z F z' F' ∧ eFr [4, 5, 6, 9] [4, 5, 6] En Ez EF En' Ez' EF' ∧ ∃ v : Int, fo' 0 = Int32.toInt64 (iz v) ∧ (((0 ≤ p0 ∧ p0 < z 12) ∧ (1 ≤ p1 ∧ p1 ≤ 99999) ∧ ((p2 = 0 ∧ 0 ≤ Ez ((p0 + 1).toNat) 9 ∧ v = 0 ∧ Ez' ((p0 + 1).toNat) 9 = Ez ((p0 + 1).toNat) 9 ∧ Ez' ((p0 + 1).toNat) 4 = Ez ((p0 + 1).toNat) 4 ∧ EF' ((p0 + 1).toNat) 4 = EF ((p0 + 1).toNat) 4) ∨ (p2 = 0 ∧ Ez ((p0 + 1).toNat) 9 < 0 ∧ Ez ((p0 + 1).toNat) 4 < 20 ∧ v = 1 ∧ Ez' ((p0 + 1).toNat) 9 = Ez ((p0 + 1).toNat) 4 ∧ Ez' ((p0 + 1).toNat) 4 = Ez ((p0 + 1).toNat) 4 + 1 ∧ EF' ((p0 + 1).toNat) 4 (Ez ((p0 + 1).toNat) 4) = 100000 + p1) ∨ (¬ p2 = 0 ∧ v = 0 ∧ Ez' ((p0 + 1).toNat) 9 = Ez ((p0 + 1).toNat) 9 ∧ Ez' ((p0 + 1).toNat) 4 = Ez ((p0 + 1).toNat) 4 ∧ EF' ((p0 + 1).toNat) 4 = EF ((p0 + 1).toNat) 4 ∧ (0 ≤ Ez ((p0 + 1).toNat) 9 → Ez ((p0 + 1).toNat) 9 < Ez ((p0 + 1).toNat) 4 → 100000 + p1 < EF ((p0 + 1).toNat) 4 (Ez ((p0 + 1).toNat) 9))) ∨ (¬ p2 = 0 ∧ v = 1 ∧ 0 ≤ Ez ((p0 + 1).toNat) 9 ∧ (Ez ((p0 + 1).toNat) 9 < Ez ((p0 + 1).toNat) 4 → EF ((p0 + 1).toNat) 4 (Ez ((p0 + 1).toNat) 9) ≤ 100000 + p1) ∧ Ez' ((p0 + 1).toNat) 9 = -1 ∧ Ez' ((p0 + 1).toNat) 4 = Ez ((p0 + 1).toNat) 4 ∧ EF' ((p0 + 1).toNat) 4 = EF ((p0 + 1).toNat) 4)) ∧ (∀ j, j ≠ ((p0 + 1).toNat) → Ez' j = Ez j ∧ EF' j = EF j)) ∧ ((v = 0 ∧ z' 16 = z 16 ∧ Ez' ((p0 + 1).toNat) 4 = Ez ((p0 + 1).toNat) 4 ∧ EF' ((p0 + 1).toNat) 4 = EF ((p0 + 1).toNat) 4 ∧ Ez' ((p0 + 1).toNat) 5 = Ez ((p0 + 1).toNat) 5 ∧ EF' ((p0 + 1).toNat) 5 = EF ((p0 + 1).toNat) 5 ∧ Ez' ((p0 + 1).toNat) 6 = Ez ((p0 + 1).toNat) 6 ∧ EF' ((p0 + 1).toNat) 6 = EF ((p0 + 1).toNat) 6) ∨ (v = 1 ∧ z' 16 = -1 ∧ p2 = 0 ∧ (iAdd 20 (Ez ((p0 + 1).toNat) 4) (EF ((p0 + 1).toNat) 4) (Ez' ((p0 + 1).toNat) 4) (EF' ((p0 + 1).toNat) 4) (100000 + p1) ∧ iAdd 20 (Ez ((p0 + 1).toNat) 5) (EF ((p0 + 1).toNat) 5) (Ez' ((p0 + 1).toNat) 5) (EF' ((p0 + 1).toNat) 5) (100000 + p1) ∧ iAdd 20 (Ez ((p0 + 1).toNat) 6) (EF ((p0 + 1).toNat) 6) (Ez' ((p0 + 1).toNat) 6) (EF' ((p0 + 1).toNat) 6) 0)) ∨ (v = 1 ∧ z' 16 = -1 ∧ ¬ p2 = 0 ∧ (Ez' ((p0 + 1).toNat) 4 = Ez ((p0 + 1).toNat) 4 ∧ Ez' ((p0 + 1).toNat) 5 = Ez ((p0 + 1).toNat) 5 ∧ Ez' ((p0 + 1).toNat) 6 = Ez ((p0 + 1).toNat) 6) ∧ EF' ((p0 + 1).toNat) 4 = EF ((p0 + 1).toNat) 4 ∧ EF' ((p0 + 1).toNat) 5 = upI (EF ((p0 + 1).toNat) 5) (Ez ((p0 + 1).toNat) 9) (100000 + p1) ∧ EF' ((p0 + 1).toNat) 6 = upI (EF ((p0 + 1).toNat) 6) (Ez ((p0 + 1).toNat) 9) 1)))) ∨ ((xFr [] [] z F z' F' ∧ eFr [] [] En Ez EF En' Ez' EF') ∧ ((q = 1 ∧ (¬ (0 ≤ p0 ∧ p0 < z 12))) ∨ (q = 2 ∧ ((0 ≤ p0 ∧ p0 < z 12) ∧ ¬ (1 ≤ p1 ∧ p1 ≤ 99999))) ∨ (q = 3 ∧ ((0 ≤ p0 ∧ p0 < z 12) ∧ (1 ≤ p1 ∧ p1 ≤ 99999) ∧ p2 = 0 ∧ Ez ((p0 + 1).toNat) 9 < 0 ∧ 20 ≤ Ez ((p0 + 1).toNat) 4)))))) (hm : (rr = 0 ∧ Gm = Fm ∧ J = va_up I 0 1 ∧ (p0 < 0 ∨ I 1 ≤ p0)) ∨ (rr = 0 ∧ Gm = Fm ∧ J = va_up I 0 2 ∧ (0 ≤ p0 ∧ p0 < I 1) ∧ (p1 < 1 ∨ 99999 < p1)) ∨ (rr = 0 ∧ Gm = Fm ∧ J = va_up I 0 3 ∧ (0 ≤ p0 ∧ p0 < I 1) ∧ (1 ≤ p1 ∧ p1 ≤ 99999) ∧ p2 = 0 ∧ Fm 11 p0 = 0 ∧ Fm 10 p0 = 20) ∨ (rr = 1 ∧ J = va_up I 0 0 ∧ Gm = va_up Fm 11 (upI (Fm 11) p0 p1) ∧ (0 ≤ p0 ∧ p0 < I 1) ∧ (1 ≤ p1 ∧ p1 ≤ 99999) ∧ p2 = 0 ∧ Fm 11 p0 = 0 ∧ ¬ Fm 10 p0 = 20) ∨ (rr = 0 ∧ J = va_up I 0 0 ∧ Gm = Fm ∧ (0 ≤ p0 ∧ p0 < I 1) ∧ (1 ≤ p1 ∧ p1 ≤ 99999) ∧ ((p2 = 0 ∧ ¬ Fm 11 p0 = 0) ∨ (¬ p2 = 0 ∧ (Fm 11 p0 = 0 ∨ p1 < Fm 11 p0)))) ∨ (rr = 1 ∧ J = va_up I 0 0 ∧ Gm = va_up (va_up (va_up (va_up (va_up (va_up Fm 6 (upI (Fm 6) (20 * p0 + Fm 10 p0) 1)) 7 (upI (Fm 7) (20 * p0 + Fm 10 p0) (Fm 11 p0))) 8 (upI (Fm 8) (20 * p0 + Fm 10 p0) p1)) 9 (upI (Fm 9) (20 * p0 + Fm 10 p0) (vp_nar .boolean (iz 1)).toInt)) 10 (upI (Fm 10) p0 (Fm 10 p0 + 1))) 11 (upI (Fm 11) p0 0) ∧ (0 ≤ p0 ∧ p0 < I 1) ∧ (1 ≤ p1 ∧ p1 ≤ 99999) ∧ ¬ p2 = 0 ∧ ¬ Fm 11 p0 = 0 ∧ Fm 11 p0 ≤ p1)) : lawY z' F' Gm := by
  have hx : ∃ S T : List Nat, xFr S T z F z' F' ∧ 3 ∉ S ∧ 3 ∉ T := by
    obtain ⟨hN, hc⟩ := hc
    rcases hc with ⟨-, hx, -⟩ | ⟨⟨hx, -⟩, -⟩
    · exact ⟨_, _, hx, by decide, by decide⟩
    · exact ⟨_, _, hx, by decide, by decide⟩
  obtain ⟨S, T, hx, d1, d2⟩ := hx
  rcases hm with ⟨m1, eG, rfl, m2⟩ | ⟨m1, eG, rfl, m2, m3⟩ | ⟨m1, eG, rfl, m2, m3, m4, m5, m6⟩ | ⟨m1, rfl, eG, m2, m3, m4, m5, m6⟩ | ⟨m1, rfl, eG, m2, m3, m4⟩ | ⟨m1, rfl, eG, m2, m3, m4, m5, m6⟩ <;> exact hY.keep hx d1 d2 (by rw [eG]; first | done | rfl)
theorem sy_see {p0 p1 : Int} (hY : lawY z F Fm) (hc : N' = N ∧ ((q = 0 ∧ xFr [] [] z F z' F' ∧ eFr [3] [3] En Ez EF En' Ez' EF' ∧ ∃ v : Int, fo' 0 = Int32.toInt64 (iz v) ∧ ((v = 0 ∧ ¬ ((0 ≤ p0 ∧ p0 < z 12) ∧ (0 ≤ p1 ∧ p1 < z 12) ∧ Ez ((p0 + 1).toNat) 3 < 5 ∧ ¬ p0 = p1 ∧ ∀ i, 0 ≤ i → i < Ez ((p0 + 1).toNat) 3 → ¬ EF ((p0 + 1).toNat) 3 i = p1) ∧ ∀ j, Ez' j = Ez j ∧ EF' j = EF j) ∨ (v = 1 ∧ ((0 ≤ p0 ∧ p0 < z 12) ∧ (0 ≤ p1 ∧ p1 < z 12) ∧ Ez ((p0 + 1).toNat) 3 < 5 ∧ ¬ p0 = p1 ∧ ∀ i, 0 ≤ i → i < Ez ((p0 + 1).toNat) 3 → ¬ EF ((p0 + 1).toNat) 3 i = p1) ∧ iAdd 5 (Ez ((p0 + 1).toNat) 3) (EF ((p0 + 1).toNat) 3) (Ez' ((p0 + 1).toNat) 3) (EF' ((p0 + 1).toNat) 3) p1 ∧ (∀ j, j ≠ ((p0 + 1).toNat) → Ez' j = Ez j ∧ EF' j = EF j)))) ∨ ((xFr [] [] z F z' F' ∧ eFr [] [] En Ez EF En' Ez' EF') ∧ ((q = 1 ∧ (¬ ((0 ≤ p0 ∧ p0 < z 12) ∧ (0 ≤ p1 ∧ p1 < z 12)))) ∨ (q = 2 ∧ ((0 ≤ p0 ∧ p0 < z 12) ∧ (0 ≤ p1 ∧ p1 < z 12) ∧ 5 ≤ Ez ((p0 + 1).toNat) 3)))))) (hm : (rr = 0 ∧ Gm = Fm ∧ J = va_up I 0 1 ∧ ¬ wr_ad (I 1) Fm p0 p1) ∨ (rr = 0 ∧ Gm = Fm ∧ J = va_up I 0 2 ∧ ¬ wr_ad (I 1) Fm p0 p1) ∨ (rr = 0 ∧ Gm = Fm ∧ J = va_up I 0 0 ∧ ¬ wr_ad (I 1) Fm p0 p1) ∨ (rr = 1 ∧ J = va_up I 0 0 ∧ Gm = va_up (va_up Fm 12 (upI (Fm 12) (5 * p0 + Fm 13 p0) p1)) 13 (upI (Fm 13) p0 (Fm 13 p0 + 1)) ∧ wr_ad (I 1) Fm p0 p1)) : lawY z' F' Gm := by
  have hx : ∃ S T : List Nat, xFr S T z F z' F' ∧ 3 ∉ S ∧ 3 ∉ T := by
    obtain ⟨hN, hc⟩ := hc
    rcases hc with ⟨-, hx, -⟩ | ⟨⟨hx, -⟩, -⟩
    · exact ⟨_, _, hx, by decide, by decide⟩
    · exact ⟨_, _, hx, by decide, by decide⟩
  obtain ⟨S, T, hx, d1, d2⟩ := hx
  rcases hm with ⟨a, rfl, rfl, -⟩ | ⟨a, rfl, rfl, -⟩ | ⟨a, rfl, rfl, -⟩ | ⟨a, rfl, rfl, d⟩ <;> exact hY.keep hx d1 d2 rfl
theorem sy_entry {p0 p1 : Int} (hY : lawY z F Fm) (hc : (q = 0 ∧ ∃ v : Int, fo' 0 = Int32.toInt64 (iz v) ∧ N' = N + 1 ∧ xFr [12, 15, 16] [] z F z' F' ∧ v = z 12 ∧ z' 12 = z 12 + 1 ∧ ((p0 = 0 ∧ p1 = -1) ∨ ((p0 = 1 ∨ p0 = 2) ∧ 0 ≤ p1 ∧ p1 < z 12 ∧ Ez ((p1 + 1).toNat) 7 = p0 - 1)) ∧ (∀ j, j < N → Ez' j = Ez j ∧ EF' j = EF j) ∧ Ez' N 7 = p0 ∧ Ez' N 0 = 0 ∧ Ez' N 4 = 0 ∧ Ez' N 9 = -1 ∧ Ez' N 1 = 0 ∧ Ez' N 2 = 0 ∧ Ez' N 3 = 0 ∧ Ez' N 8 = p1 ∧ Ez' N 5 = 0 ∧ Ez' N 6 = 0 ∧ z' 15 = 0 ∧ z' 16 = -1) ∨ ((N' = N ∧ xFr [] [] z F z' F' ∧ eFr [] [] En Ez EF En' Ez' EF' ∧ z' 12 = z 12) ∧ ((q = 1 ∧ (¬ p1 = -1 ∧ ¬ (0 ≤ p1 ∧ p1 < z 12))) ∨ (q = 2 ∧ ((p1 = -1 ∨ (0 ≤ p1 ∧ p1 < z 12)) ∧ ¬ ((p0 = 0 ∧ p1 = -1) ∨ ((p0 = 1 ∨ p0 = 2) ∧ 0 ≤ p1 ∧ p1 < z 12 ∧ Ez ((p1 + 1).toNat) 7 = p0 - 1))))))) (hm : (rr = 0 ∧ Gm = Fm ∧ J = va_up I 0 1 ∧ ¬ p1 = -1 ∧ (p1 < 0 ∨ I 1 ≤ p1)) ∨ (rr = 0 ∧ Gm = Fm ∧ J = va_up I 0 2 ∧ (p1 = -1 ∨ (0 ≤ p1 ∧ p1 < I 1)) ∧ ¬ ((p0 = 0 ∧ p1 = -1) ∨ ((p0 = 1 ∨ p0 = 2) ∧ 0 ≤ p1 ∧ p1 < I 1 ∧ Fm 2 p1 = p0 - 1))) ∨ (J = va_up (va_up (va_up I 0 0) 16 0) 1 (I 1 + 1) ∧ Gm = va_up (va_up Fm 2 (upI (Fm 2) (I 1) p0)) 3 (upI (Fm 3) (I 1) p1) ∧ rr = I 1 ∧ ((p0 = 0 ∧ p1 = -1) ∨ ((p0 = 1 ∨ p0 = 2) ∧ 0 ≤ p1 ∧ p1 < I 1 ∧ Fm 2 p1 = p0 - 1)))) : lawY z' F' Gm := by
  have hx : ∃ S T : List Nat, xFr S T z F z' F' ∧ 3 ∉ S ∧ 3 ∉ T := by
    rcases hc with ⟨-, v, -, -, hx, -⟩ | ⟨⟨-, hx, -⟩, -⟩
    · exact ⟨_, _, hx, by decide, by decide⟩
    · exact ⟨_, _, hx, by decide, by decide⟩
  obtain ⟨S, T, hx, d1, d2⟩ := hx
  rcases hm with ⟨m1, rfl, rfl, m2, m3⟩ | ⟨m1, rfl, rfl, m2, m3⟩ | ⟨rfl, rfl, m1, m2⟩ <;> exact hY.keep hx d1 d2 rfl
theorem sy_row (hY : lawY z F Fm) (hc : N' = N ∧ ((q = 0 ∧ xFr [0, 1, 2, 4, 5, 6, 7, 8, 9, 15, 16] [0, 1, 2, 4, 5, 6, 7, 8, 9] z F z' F' ∧ eFr [10] [] En Ez EF En' Ez' EF' ∧ ∃ v : Int, fo' 0 = Int32.toInt64 (iz v) ∧ (rs_RK z' F' Ez' (Fm 2) (Fm 3) (rs_wd Fm) (kf_oc I Fm) ∧ lo_K z' F' Ez' EF')) ∨ ((xFr [0, 1, 2, 4, 5, 6, 7, 8, 9, 15, 16] [0, 1, 2, 4, 5, 6, 7, 8, 9] z F z' F' ∧ eFr [10] [] En Ez EF En' Ez' EF' ∧ (rs_RK z' F' Ez' (Fm 2) (Fm 3) (rs_wd Fm) (kf_oc I Fm) ∧ lo_K z' F' Ez' EF')) ∧ ((q = 1 ∧ (True)))))) (hm : mWk I Fm J Gm) : lawY z' F' Gm := by
  obtain ⟨hN, hc⟩ := hc
  rcases hc with ⟨-, hx, -⟩ | ⟨⟨hx, -⟩, -⟩
  · exact hY.keep hx (by decide) (by decide) (hm.2.1.2 36 (by decide))
  · exact hY.keep hx (by decide) (by decide) (hm.2.1.2 36 (by decide))
theorem sy_locator {p0 p1 p2 : Int} (hY : lawY z F Fm) (hc : N' = N ∧ ((q = 0 ∧ xFr [0, 1, 2, 4, 5, 6, 7, 8, 9, 15, 16] [0, 1, 2, 4, 5, 6, 7, 8, 9] z F z' F' ∧ eFr [10] [] En Ez EF En' Ez' EF' ∧ ∃ v : Int, fo' 0 = Int32.toInt64 (iz v) ∧ (rs_RK z' F' Ez' (Fm 2) (Fm 3) (rs_wd Fm) (kf_oc I Fm) ∧ lo_K z' F' Ez' EF' ∧ z' 15 = 1 ∧ (0 ≤ p0 ∧ p0 < z' 1) ∧ z' 16 = F' 1 p0 ∧ (0 ≤ p1 ∧ p1 < z' 7) ∧ (0 ≤ p2 ∧ p2 ≤ 2) ∧ v = (if p2 = 0 then F' 7 p1 / 100000 else (if p2 = 1 then F' 7 p1 else F' 8 p1) % 100000))) ∨ ((xFr [0, 1, 2, 4, 5, 6, 7, 8, 9, 15, 16] [0, 1, 2, 4, 5, 6, 7, 8, 9] z F z' F' ∧ eFr [10] [] En Ez EF En' Ez' EF' ∧ (rs_RK z' F' Ez' (Fm 2) (Fm 3) (rs_wd Fm) (kf_oc I Fm) ∧ lo_K z' F' Ez' EF' ∧ z' 15 = 1 ∧ (¬ (0 ≤ p0 ∧ p0 < z' 1) ∨ ((0 ≤ p0 ∧ p0 < z' 1) ∧ z' 16 = F' 1 p0 ∧ ¬ ((0 ≤ p1 ∧ p1 < z' 7) ∧ 0 ≤ p2 ∧ p2 ≤ 2))))) ∧ ((q = 1 ∧ (True)))))) (hm : mWk I Fm J Gm) : lawY z' F' Gm := by
  obtain ⟨hN, hc⟩ := hc
  rcases hc with ⟨-, hx, -⟩ | ⟨⟨hx, -⟩, -⟩
  · exact hY.keep hx (by decide) (by decide) (hm.2.1.2 36 (by decide))
  · exact hY.keep hx (by decide) (by decide) (hm.2.1.2 36 (by decide))
theorem sy_compare {p0 p1 : Int} (hY : lawY z F Fm) (hc : N' = N ∧ ((q = 0 ∧ xFr [] [] z F z' F' ∧ eFr [] [] En Ez EF En' Ez' EF' ∧ ∃ v : Int, fo' 0 = Int32.toInt64 (iz v) ∧ (((0 ≤ p0 ∧ p0 < z 12) ∧ (0 ≤ p1 ∧ p1 < z 12)) ∧ ((¬ kf_lx (kf_ls (EF ((p0 + 1).toNat) 2) 0 (Ez ((p0 + 1).toNat) 2).toNat) (kf_ls (EF ((p1 + 1).toNat) 2) 0 (Ez ((p1 + 1).toNat) 2).toNat) = 0 ∧ v = kf_lx (kf_ls (EF ((p0 + 1).toNat) 2) 0 (Ez ((p0 + 1).toNat) 2).toNat) (kf_ls (EF ((p1 + 1).toNat) 2) 0 (Ez ((p1 + 1).toNat) 2).toNat)) ∨ (kf_lx (kf_ls (EF ((p0 + 1).toNat) 2) 0 (Ez ((p0 + 1).toNat) 2).toNat) (kf_ls (EF ((p1 + 1).toNat) 2) 0 (Ez ((p1 + 1).toNat) 2).toNat) = 0 ∧ v = kf_lx (kf_ls (EF ((p0 + 1).toNat) 1) 0 (Ez ((p0 + 1).toNat) 1).toNat) (kf_ls (EF ((p1 + 1).toNat) 1) 0 (Ez ((p1 + 1).toNat) 1).toNat))))) ∨ ((xFr [] [] z F z' F' ∧ eFr [] [] En Ez EF En' Ez' EF') ∧ ((q = 1 ∧ (¬ ((0 ≤ p0 ∧ p0 < z 12) ∧ (0 ≤ p1 ∧ p1 < z 12)))))))) (hm : mWk I Fm J Gm) : lawY z' F' Gm := by
  obtain ⟨hN, hc⟩ := hc
  rcases hc with ⟨-, hx, -⟩ | ⟨⟨hx, -⟩, -⟩
  · exact hY.keep hx (by decide) (by decide) (hm.2.1.2 36 (by decide))
  · exact hY.keep hx (by decide) (by decide) (hm.2.1.2 36 (by decide))
theorem sy_told {p0 p1 : Int} (hY : lawY z F Fm) (hc : N' = N ∧ ((q = 0 ∧ xFr [0, 1, 15, 17, 18, 19, 20, 21] [0, 1] z F z' F' ∧ eFr [10, 11, 12, 13] [] En Ez EF En' Ez' EF' ∧ ∃ v : Int, fo' 0 = Int32.toInt64 (iz v) ∧ (rs_RK z' F' Ez' (Fm 2) (Fm 3) (rs_wd Fm) (kf_oc I Fm) ∧ z' 15 = 1 ∧ ∃ nn kd av mv : Int, wr_TE p0 (wr_a (z 12) (Fm 2) (Fm 3) (rs_sE Ez') (wr_pg Fm) (Fm 13) (Fm 11) (wr_se Fm) (z 12).toNat 0) nn kd av mv ∧ ¬ (¬ p0 = -1 ∧ (¬ (0 ≤ p0 ∧ p0 < nn) ∨ p1 < 0 ∨ 2 < p1)) ∧ v = (if p0 = -1 then nn else if p1 = 0 then kd else if p1 = 1 then av else mv))) ∨ ((xFr [0, 1, 15, 17, 18, 19, 20, 21] [0, 1] z F z' F' ∧ eFr [10, 11, 12, 13] [] En Ez EF En' Ez' EF' ∧ (rs_RK z' F' Ez' (Fm 2) (Fm 3) (rs_wd Fm) (kf_oc I Fm) ∧ z' 15 = 1)) ∧ ((q = 1 ∧ (∃ s9 : Int → Int, rs_C (Fm 2) (Fm 3) (rs_wd Fm) (z 12) s9 ∧ (¬ p0 = -1 ∧ (¬ (0 ≤ p0 ∧ p0 < (((wr_a (z 12) (Fm 2) (Fm 3) s9 (wr_pg Fm) (Fm 13) (Fm 11) (wr_se Fm) (z 12).toNat 0).length : Nat) : Int)) ∨ p1 < 0 ∨ 2 < p1)))))))) (hm : mWk I Fm J Gm) : lawY z' F' Gm := by
  obtain ⟨hN, hc⟩ := hc
  rcases hc with ⟨-, hx, -⟩ | ⟨⟨hx, -⟩, -⟩
  · exact hY.keep hx (by decide) (by decide) (hm.2.1.2 36 (by decide))
  · exact hY.keep hx (by decide) (by decide) (hm.2.1.2 36 (by decide))
theorem sy_at (hY : lawY z F Fm) (hc : N' = N ∧ ((q = 0 ∧ xFr [] [] z F z' F' ∧ eFr [] [] En Ez EF En' Ez' EF' ∧ ∃ v : Int, fo' 0 = Int32.toInt64 (iz v) ∧ (True)) ∨ ((xFr [] [] z F z' F' ∧ eFr [] [] En Ez EF En' Ez' EF') ∧ ((q = 1 ∧ (True)))))) (hm : mWk I Fm J Gm) : lawY z' F' Gm := by
  obtain ⟨hN, hc⟩ := hc
  rcases hc with ⟨-, hx, -⟩ | ⟨⟨hx, -⟩, -⟩
  · exact hY.keep hx (by decide) (by decide) (hm.2.1.2 36 (by decide))
  · exact hY.keep hx (by decide) (by decide) (hm.2.1.2 36 (by decide))
theorem sy_print (hY : lawY z F Fm) (hc : N' = N ∧ ((q = 0 ∧ xFr [0, 1, 2, 4, 5, 6, 7, 8, 9, 10, 11, 15, 16, 22, 23] [0, 1, 2, 4, 5, 6, 7, 8, 9, 10, 11] z F z' F' ∧ eFr [10] [] En Ez EF En' Ez' EF' ∧ ∃ v : Int, fo' 0 = Int32.toInt64 (iz v) ∧ (rs_RK z' F' Ez' (Fm 2) (Fm 3) (rs_wd Fm) (kf_oc I Fm) ∧ lo_K z' F' Ez' EF' ∧ ((0 ≤ pt_ft (F 3) (z 3) (z 3).toNat 0 0 ∧ v = -1 - pt_ft (F 3) (z 3) (z 3).toNat 0 0 ∧ z' 10 = z 10 ∧ F' 10 = F 10) ∨ (pt_ft (F 3) (z 3) (z 3).toNat 0 0 = -1 ∧ z' 15 = 1 ∧ v = z' 10 ∧ pt_h (pt_l (pt_aE (Fm 2) (Fm 3) (F' 3) (F' 1) (z' 3) (z' 12) Ez' EF' (z' 1).toNat)) (F' 10) (z' 10) 0)))) ∨ ((xFr [0, 1, 2, 4, 5, 6, 7, 8, 9, 10, 11, 15, 16, 22, 23] [0, 1, 2, 4, 5, 6, 7, 8, 9, 10, 11] z F z' F' ∧ eFr [10] [] En Ez EF En' Ez' EF' ∧ (rs_RK z' F' Ez' (Fm 2) (Fm 3) (rs_wd Fm) (kf_oc I Fm) ∧ lo_K z' F' Ez' EF' ∧ z' 15 = 1 ∧ pt_ft (F 3) (z 3) (z 3).toNat 0 0 = -1 ∧ 6000 < (pt_aE (Fm 2) (Fm 3) (F' 3) (F' 1) (z' 3) (z' 12) Ez' EF' (z' 1).toNat).length ∧ z' 10 = z 10 ∧ F' 10 = F 10)) ∧ ((q = 1 ∧ (True)))))) (hm : mWk I Fm J Gm) : lawY z' F' Gm := by
  obtain ⟨hN, hc⟩ := hc
  rcases hc with ⟨-, hx, -⟩ | ⟨⟨hx, -⟩, -⟩
  · exact hY.keep hx (by decide) (by decide) (hm.2.1.2 36 (by decide))
  · exact hY.keep hx (by decide) (by decide) (hm.2.1.2 36 (by decide))
theorem sr_print (hI : mIk k I Fm) (hR : lawR z Ez EF I Fm) (hQ : lawK Ez EF I Fm) (hW : lawW z F Ez I Fm) (hV : lawS Ez EF I Fm) (hPg : lawP Ez EF I Fm) (hY : lawY z F Fm) (hz1 : 0 ≤ z' 1) (hc : N' = N ∧ ((q = 0 ∧ xFr [0, 1, 2, 4, 5, 6, 7, 8, 9, 10, 11, 15, 16, 22, 23] [0, 1, 2, 4, 5, 6, 7, 8, 9, 10, 11] z F z' F' ∧ eFr [10] [] En Ez EF En' Ez' EF' ∧ ∃ v : Int, fo' 0 = Int32.toInt64 (iz v) ∧ (rs_RK z' F' Ez' (Fm 2) (Fm 3) (rs_wd Fm) (kf_oc I Fm) ∧ lo_K z' F' Ez' EF' ∧ ((0 ≤ pt_ft (F 3) (z 3) (z 3).toNat 0 0 ∧ v = -1 - pt_ft (F 3) (z 3) (z 3).toNat 0 0 ∧ z' 10 = z 10 ∧ F' 10 = F 10) ∨ (pt_ft (F 3) (z 3) (z 3).toNat 0 0 = -1 ∧ z' 15 = 1 ∧ v = z' 10 ∧ pt_h (pt_l (pt_aE (Fm 2) (Fm 3) (F' 3) (F' 1) (z' 3) (z' 12) Ez' EF' (z' 1).toNat)) (F' 10) (z' 10) 0)))) ∨ ((xFr [0, 1, 2, 4, 5, 6, 7, 8, 9, 10, 11, 15, 16, 22, 23] [0, 1, 2, 4, 5, 6, 7, 8, 9, 10, 11] z F z' F' ∧ eFr [10] [] En Ez EF En' Ez' EF' ∧ (rs_RK z' F' Ez' (Fm 2) (Fm 3) (rs_wd Fm) (kf_oc I Fm) ∧ lo_K z' F' Ez' EF' ∧ z' 15 = 1 ∧ pt_ft (F 3) (z 3) (z 3).toNat 0 0 = -1 ∧ 6000 < (pt_aE (Fm 2) (Fm 3) (F' 3) (F' 1) (z' 3) (z' 12) Ez' EF' (z' 1).toNat).length ∧ z' 10 = z 10 ∧ F' 10 = F 10)) ∧ ((q = 1 ∧ (True)))))) (hm : mWk I Fm J Gm ∧ mKb J Gm ∧ ((0 ≤ pt_ft (Fm 36) (I 37) (I 37).toNat 0 0 ∧ J 0 = 0 ∧ rr = -1 - pt_ft (Fm 36) (I 37) (I 37).toNat 0 0 ∧ J 40 = I 40 ∧ Gm 39 = Fm 39) ∨ (pt_ft (Fm 36) (I 37) (I 37).toNat 0 0 = -1 ∧ J 16 = 1 ∧ ((J 0 = 1 ∧ 6000 < (pt_aM J Gm (J 19).toNat).length ∧ J 40 = I 40 ∧ Gm 39 = Fm 39) ∨ (J 0 = 0 ∧ rr = J 40 ∧ pt_h (pt_l (pt_aM J Gm (J 19).toNat)) (Gm 39) (J 40) 0))))) : J 0 = q ∧ (q = 0 → fo' 0 = Int32.toInt64 (iz rr)) ∧ (lawO z F I Fm → lawO z' F' J Gm) := by
  obtain ⟨hw, hkb, hm⟩ := hm
  have h12 := hR.2.1
  have h3 := hR.1
  have hf := hw.2.1
  have hL := hW.lv hI
  have hc37 := hI.1.hst
  obtain ⟨hN, hc⟩ := hc
  have hft : pt_ft (F 3) (z 3) (z 3).toNat 0 0 = pt_ft (Fm 36) (I 37) (I 37).toNat 0 0 := by
    rw [← h3]
    exact pt_ft_cg hY _ _ _ (Int.le_refl 0)
  have hcom : J 16 = 1 → xFr [0, 1, 2, 4, 5, 6, 7, 8, 9, 10, 11, 15, 16, 22, 23] [0, 1, 2, 4, 5, 6, 7, 8, 9, 10, 11] z F z' F' → eFr [10] [] En Ez EF En' Ez' EF' → rs_RK z' F' Ez' (Fm 2) (Fm 3) (rs_wd Fm) (kf_oc I Fm) → z' 15 = 1 → pt_aE (Fm 2) (Fm 3) (F' 3) (F' 1) (z' 3) (z' 12) Ez' EF' (z' 1).toNat = pt_aM J Gm (J 19).toNat := fun m16 hx he hrk c15 => by
    obtain ⟨r1, r2, r3⟩ := hrk c15
    obtain ⟨k1, k2, k3⟩ := hkb.2 m16
    have e12 : z' 12 = I 1 := by rw [hx.1 12 (by decide)]; exact h12
    have hsz := ((hI.ask hw).1.hkn m16).2.1
    rw [e12] at r1 r3
    rw [hf.1 1 (by decide), hf.2 2 (by decide), hf.2 3 (by decide), rs_wd_fr (hf.2 4 (by decide)) (hf.2 5 (by decide))] at k1
    rw [hf.2 2 (by decide), hf.2 3 (by decide), kf_oc_fr (hf.1 14 (by decide)) (hf.1 15 (by decide)) (hf.2 4 (by decide)) (hf.2 5 (by decide))] at k2
    rw [hf.1 1 (by decide)] at k3
    have q1 := rs_rows_eq hL (rs_wd_W Fm) (kf_oc_cm I Fm) hz1 hsz.1 r1 r2 r3 k1 k2 k3
    have hs : ∀ e, 0 ≤ e → e < I 1 → (rs_sE Ez' e = Gm 17 e ∧ Fm 2 (rs_sE Ez' e) = Fm 2 e) ∧ 0 ≤ rs_sE Ez' e ∧ rs_sE Ez' e ≤ e := fun e a b => ⟨⟨q1.2 e a b, rs_P_lv (rs_C_P (rs_wd_W Fm) r1) a b⟩, (r1 e a b).1⟩
    have e3 : z' 3 = J 37 := by rw [hx.1 3 (by decide), hf.1 37 (by decide)]; exact h3
    have hY9 : ∀ i, 0 ≤ i → i < J 37 → F' 3 i = Gm 36 i := fun i a b => by
      rw [hx.2 3 (by decide), hf.2 36 (by decide)]
      rw [hf.1 37 (by decide)] at b
      exact hY i a (by omega)
    rw [e12, e3, ← q1.1.1]
    unfold pt_aE pt_aM
    refine pt_al_cg _ (fun i a b => ?_)
    have er := q1.1.2 i a (by omega)
    have er9 := (r3 (F' 1 i)).mp ⟨i, a, by omega, rfl⟩
    rw [← er]
    obtain ⟨s1, s2, s3, s4, s5⟩ := pt_same (r := F' 1 i) hI hR hQ hW hV hPg he hw hs er9.1 er9.2.1
    refine ⟨⟨s1, s2⟩, pt_P_cg hY9 s3 s4 s5 s2, ?_⟩
    rw [s1]
    exact pt_P_cg hY9 s3 s4 s5 s2
  rcases hc with ⟨c1, hx, he, v, c2, hrk, hck, hpo⟩ | ⟨⟨hx, he, hrk, hck, c15, cft, clen, o1, o2⟩, c1, -⟩
  · subst c1
    rcases hpo with ⟨p1, p2, o1, o2⟩ | ⟨p1, c15, p2, p3⟩
    · rcases hm with ⟨m1, m0, m2, o3, o4⟩ | ⟨m1, -⟩
      · refine ⟨m0, fun _ => ?_, fun hO => hO.eq o1 o2 o3 o4⟩
        rw [c2, p2, m2, hft]
      · omega
    · rcases hm with ⟨m1, m0, m2, -⟩ | ⟨m1, m16, hm⟩
      · omega
      · have e9 := hcom m16 hx he hrk c15
        rw [e9] at p3
        rcases hm with ⟨m0, m2, -⟩ | ⟨m0, m2, m3⟩
        · exfalso
          have t9 := p3.2.2
          rw [pt_l_len] at t9
          omega
        · refine ⟨m0, fun _ => ?_, fun _ => pt_h_same p3 m3⟩
          have t1 := pt_h_z p3
          have t2 := pt_h_z m3
          have t3 := p3.2.1
          have t4 := m3.2.1
          have ev : v = rr := by omega
          rw [c2, ev]
  · subst c1
    rcases hm with ⟨m1, m0, m2, -⟩ | ⟨m1, m16, hm⟩
    · omega
    · have e9 := hcom m16 hx he hrk c15
      rw [e9] at clen
      rcases hm with ⟨m0, m2, o3, o4⟩ | ⟨m0, m2, m3⟩
      · exact ⟨m0, fun h9 => absurd h9 (by decide), fun hO => hO.eq o1 o2 o3 o4⟩
      · exfalso
        have t9 := m3.2.2
        rw [pt_l_len] at t9
        omega
end QST
