/-! class and reference: row -/
section NST
variable {k : Int} {n n' : Nat → Nat} {z z' : Nat → Int} {F F' : Nat → Int → Int} {N N' : Nat} {En En' : Nat → Nat → Nat} {Ez Ez' : Nat → Nat → Int} {EF EF' : Nat → Nat → Int → Int} {fo' : Nat → Int64} {I J : Nat → Int} {Fm Gm : Nat → Int → Int} {q rr : Int}
theorem lawS.sn (h : lawS Ez EF I Fm) (hI : mIk k I Fm) (h12 : z 12 = I 1) : sn_H (z 12) Ez EF := by
  intro e a b
  rw [h12] at b ⊢
  obtain ⟨s1, s2⟩ := h e a b
  intro k c d
  rw [s2 k c (by omega)]
  exact hI.1.hse e k a b c (by omega)
theorem wk_row6 {p0 p1 : Int} (hc : N' = N ∧ ((q = 0 ∧ xFr [0, 1, 2, 4, 5, 6, 7, 8, 9, 15, 16] [0, 1, 2, 4, 5, 6, 7, 8, 9] z F z' F' ∧ eFr [10] [] En Ez EF En' Ez' EF' ∧ ∃ v : Int, fo' 0 = Int32.toInt64 (iz v) ∧ (rs_RK z' F' Ez' (Fm 2) (Fm 3) (rs_wd Fm) (kf_oc I Fm) ∧ lo_K z' F' Ez' EF' ∧ z' 15 = 1 ∧ ((0 ≤ p0 ∧ p0 < z' 1) ∧ 0 ≤ p1 ∧ p1 ≤ 4) ∧ (p1 = 0 → v = (F' 1 p0)) ∧ (p1 = 1 → v = Ez' (((F' 1 p0) + 1).toNat) 7) ∧ (p1 = 2 → z' 16 = (F' 1 p0) ∧ v = z' 7) ∧ (p1 = 3 → v = (((sn_r (rs_sE Ez') (sn_c Ez') (sn_f EF') (F' 1 p0) (z' 12).toNat).length : Nat) : Int)) ∧ (p1 = 4 → v = sn_g (kf_ls (EF' ((rs_w (Fm 2) (Fm 3) (rs_sE Ez') (F' 1 p0) 0 + 1).toNat) 2) 0 (Ez' ((rs_w (Fm 2) (Fm 3) (rs_sE Ez') (F' 1 p0) 0 + 1).toNat) 2).toNat)))) ∨ ((xFr [0, 1, 2, 4, 5, 6, 7, 8, 9, 15, 16] [0, 1, 2, 4, 5, 6, 7, 8, 9] z F z' F' ∧ eFr [10] [] En Ez EF En' Ez' EF' ∧ (rs_RK z' F' Ez' (Fm 2) (Fm 3) (rs_wd Fm) (kf_oc I Fm) ∧ lo_K z' F' Ez' EF' ∧ z' 15 = 1 ∧ ¬ ((0 ≤ p0 ∧ p0 < z' 1) ∧ 0 ≤ p1 ∧ p1 ≤ 4))) ∧ ((q = 1 ∧ (True)))))) : N' = N ∧ ((q = 0 ∧ xFr [0, 1, 2, 4, 5, 6, 7, 8, 9, 15, 16] [0, 1, 2, 4, 5, 6, 7, 8, 9] z F z' F' ∧ eFr [10] [] En Ez EF En' Ez' EF' ∧ ∃ v : Int, fo' 0 = Int32.toInt64 (iz v) ∧ (rs_RK z' F' Ez' (Fm 2) (Fm 3) (rs_wd Fm) (kf_oc I Fm) ∧ lo_K z' F' Ez' EF')) ∨ ((xFr [0, 1, 2, 4, 5, 6, 7, 8, 9, 15, 16] [0, 1, 2, 4, 5, 6, 7, 8, 9] z F z' F' ∧ eFr [10] [] En Ez EF En' Ez' EF' ∧ (rs_RK z' F' Ez' (Fm 2) (Fm 3) (rs_wd Fm) (kf_oc I Fm) ∧ lo_K z' F' Ez' EF')) ∧ ((q = 1 ∧ (True))))) := by
  obtain ⟨hN, hc⟩ := hc
  rcases hc with ⟨c1, hx, he, v, c2, c3, c4, -⟩ | ⟨⟨hx, he, c3, c4, -⟩, c5⟩
  · exact ⟨hN, Or.inl ⟨c1, hx, he, v, c2, c3, c4⟩⟩
  · exact ⟨hN, Or.inr ⟨⟨hx, he, c3, c4⟩, c5⟩⟩
theorem sr_row {p0 p1 : Int} (hI : mIk k I Fm) (hR : lawR z Ez EF I Fm) (hQ : lawK Ez EF I Fm) (hW : lawW z F Ez I Fm) (hV : lawS Ez EF I Fm) (hPg : lawP Ez EF I Fm) (hz1 : 0 ≤ z' 1) (hz7 : 0 ≤ z' 7) (hc : N' = N ∧ ((q = 0 ∧ xFr [0, 1, 2, 4, 5, 6, 7, 8, 9, 15, 16] [0, 1, 2, 4, 5, 6, 7, 8, 9] z F z' F' ∧ eFr [10] [] En Ez EF En' Ez' EF' ∧ ∃ v : Int, fo' 0 = Int32.toInt64 (iz v) ∧ (rs_RK z' F' Ez' (Fm 2) (Fm 3) (rs_wd Fm) (kf_oc I Fm) ∧ lo_K z' F' Ez' EF' ∧ z' 15 = 1 ∧ ((0 ≤ p0 ∧ p0 < z' 1) ∧ 0 ≤ p1 ∧ p1 ≤ 4) ∧ (p1 = 0 → v = (F' 1 p0)) ∧ (p1 = 1 → v = Ez' (((F' 1 p0) + 1).toNat) 7) ∧ (p1 = 2 → z' 16 = (F' 1 p0) ∧ v = z' 7) ∧ (p1 = 3 → v = (((sn_r (rs_sE Ez') (sn_c Ez') (sn_f EF') (F' 1 p0) (z' 12).toNat).length : Nat) : Int)) ∧ (p1 = 4 → v = sn_g (kf_ls (EF' ((rs_w (Fm 2) (Fm 3) (rs_sE Ez') (F' 1 p0) 0 + 1).toNat) 2) 0 (Ez' ((rs_w (Fm 2) (Fm 3) (rs_sE Ez') (F' 1 p0) 0 + 1).toNat) 2).toNat)))) ∨ ((xFr [0, 1, 2, 4, 5, 6, 7, 8, 9, 15, 16] [0, 1, 2, 4, 5, 6, 7, 8, 9] z F z' F' ∧ eFr [10] [] En Ez EF En' Ez' EF' ∧ (rs_RK z' F' Ez' (Fm 2) (Fm 3) (rs_wd Fm) (kf_oc I Fm) ∧ lo_K z' F' Ez' EF' ∧ z' 15 = 1 ∧ ¬ ((0 ≤ p0 ∧ p0 < z' 1) ∧ 0 ≤ p1 ∧ p1 ≤ 4))) ∧ ((q = 1 ∧ (True)))))) (hm : mWk I Fm J Gm ∧ mKb J Gm ∧ J 16 = 1 ∧ ((J 0 = 1 ∧ ¬ ((0 ≤ p0 ∧ p0 < J 19) ∧ 0 ≤ p1 ∧ p1 ≤ 4)) ∨ (J 0 = 0 ∧ ((0 ≤ p0 ∧ p0 < J 19) ∧ 0 ≤ p1 ∧ p1 ≤ 4) ∧ (p1 = 0 → rr = (Gm 18 p0)) ∧ (p1 = 1 → rr = Gm 2 (Gm 18 p0)) ∧ (p1 = 2 → ∃ M9, lo_S (lo_row (Gm 17) (lo_R Gm) (Gm 18 p0) (J 1).toNat) M9 ∧ rr = (((lo_L (lo_J M9)).length : Nat) : Int)) ∧ (p1 = 3 → rr = (((sn_r (Gm 17) (Gm 13) (wr_se Gm) (Gm 18 p0) (J 1).toNat).length : Nat) : Int)) ∧ (p1 = 4 → rr = sn_g (kf_ky J Gm (rs_w (Gm 2) (Gm 3) (Gm 17) (Gm 18 p0) 0)))))) : J 0 = q ∧ (q = 0 → fo' 0 = Int32.toInt64 (iz rr)) := by
  obtain ⟨hw, hkb, m16, hm⟩ := hm
  have h12 := hR.2.1
  have hf := hw.2.1
  have hL := hW.lv hI
  obtain ⟨hN, hc⟩ := hc
  have hcom : xFr [0, 1, 2, 4, 5, 6, 7, 8, 9, 15, 16] [0, 1, 2, 4, 5, 6, 7, 8, 9] z F z' F' → eFr [10] [] En Ez EF En' Ez' EF' → rs_RK z' F' Ez' (Fm 2) (Fm 3) (rs_wd Fm) (kf_oc I Fm) → z' 15 = 1 → z' 12 = I 1 ∧ J 1 = I 1 ∧ z' 1 = J 19 ∧ (∀ i, 0 ≤ i → i < z' 1 → F' 1 i = Gm 18 i ∧ 0 ≤ F' 1 i ∧ F' 1 i < I 1) ∧ ∀ e, 0 ≤ e → e < I 1 → rs_sE Ez' e = Gm 17 e ∧ Fm 2 (rs_sE Ez' e) = Fm 2 e := fun hx he hrk c15 => by
    obtain ⟨r1, r2, r3⟩ := hrk c15
    obtain ⟨k1, k2, k3⟩ := hkb.2 m16
    have e12 : z' 12 = I 1 := by rw [hx.1 12 (by decide)]; exact h12
    have hsz := ((hI.ask hw).1.hkn m16).2.1
    rw [e12] at r1 r3
    rw [hf.1 1 (by decide), hf.2 2 (by decide), hf.2 3 (by decide), rs_wd_fr (hf.2 4 (by decide)) (hf.2 5 (by decide))] at k1
    rw [hf.2 2 (by decide), hf.2 3 (by decide), kf_oc_fr (hf.1 14 (by decide)) (hf.1 15 (by decide)) (hf.2 4 (by decide)) (hf.2 5 (by decide))] at k2
    rw [hf.1 1 (by decide)] at k3
    have q1 := rs_rows_eq hL (rs_wd_W Fm) (kf_oc_cm I Fm) hz1 hsz.1 r1 r2 r3 k1 k2 k3
    exact ⟨e12, hf.1 1 (by decide), q1.1.1, fun i a b => ⟨q1.1.2 i a b, ((r3 (F' 1 i)).mp ⟨i, a, b, rfl⟩).1, ((r3 (F' 1 i)).mp ⟨i, a, b, rfl⟩).2.1⟩, fun e a b => ⟨q1.2 e a b, rs_P_lv (rs_C_P (rs_wd_W Fm) r1) a b⟩⟩
  rcases hc with ⟨c1, hx, he, v, c2, hrk, hck, c15, hok, p0e, p1e, p2e, p3e, p4e⟩ | ⟨⟨hx, he, hrk, hck, c15, hbad⟩, c1, -⟩
  · obtain ⟨e12, e1, e19, hrow, hs⟩ := hcom hx he hrk c15
    obtain ⟨er, er0, er1⟩ := hrow p0 hok.1.1 hok.1.2
    subst c1
    rcases hm with ⟨m0, mb⟩ | ⟨m0, mg, n0, n1, n2, n3, n4⟩
    · exact absurd (show (0 ≤ p0 ∧ p0 < J 19) ∧ 0 ≤ p1 ∧ p1 ≤ 4 by omega) mb
    refine ⟨m0, fun _ => ?_⟩
    rw [c2]
    have hvr : v = rr := by
      by_cases d0 : p1 = 0
      · rw [p0e d0, n0 d0, er]
      by_cases d1 : p1 = 1
      · rw [p1e d1, n1 d1, ← er, he.1 _ 7 (by decide), hf.2 2 (by decide)]
        exact (hR.2.2.2.2 _ er0 er1).1
      by_cases d2 : p1 = 2
      · obtain ⟨M9, hS9, hr⟩ := n2 d2
        obtain ⟨h16, hv⟩ := p2e d2
        have hV9 := hPg.ask he (by decide) (by decide) hw
        rcases hck with hck | ⟨-, -, M, hS, hPL⟩
        · omega
        have hp : (lo_row (rs_sE Ez') (lo_P Ez' EF') (z' 16) (z' 12).toNat).Perm (lo_row (Gm 17) (lo_R Gm) (Gm 18 p0) (J 1).toNat) := by
          rw [h16, er, e12, e1]
          exact lo_row_perm _ (fun e a b => ⟨(hs e a (by omega)).1, (hV9 e a (by omega)).2.1⟩)
        have hok9 : lo_ok M := fun x hx => by
          have hv9 : lo_v x := lo_row_all (V := lo_v) _ (fun e a b y hy => (hV9 e a (by omega)).2.2.1 y ((hV9 e a (by omega)).2.1.mem_iff.mp hy)) x (hS.2.mem_iff.mp hx)
          exact hv9.2.1
        rw [lo_J_perm hS.1 hS9.1 hok9 ((hS.2.trans hp).trans hS9.2.symm)] at hPL
        have hlen := congrArg List.length hPL
        rw [lo_pl_len] at hlen
        rw [hv, hr, ← hlen]
        omega
      by_cases d3 : p1 = 3
      · rw [p3e d3, n3 d3, er, e12, e1]
        have hse : sn_r (rs_sE Ez') (sn_c Ez') (sn_f EF') (Gm 18 p0) (I 1).toNat = sn_r (Gm 17) (Gm 13) (wr_se Gm) (Gm 18 p0) (I 1).toNat := by
          have hc9 : ∀ (m : Nat), (m : Int) ≤ I 1 → sn_r (Gm 17) (sn_c Ez') (sn_f EF') (Gm 18 p0) m = sn_r (Gm 17) (Gm 13) (wr_se Gm) (Gm 18 p0) m := fun m => by
            induction m with
            | zero => intro _; rfl
            | succ m ih =>
              intro hm9
              obtain ⟨s1, s2⟩ := hV m (by omega) (by omega)
              have hmy := hI.1.hmy m
              have e3 : sn_c Ez' m = Fm 13 m := by show Ez' _ 3 = _; rw [he.1 _ 3 (by decide)]; exact s1
              show (if Gm 17 m = Gm 18 p0 then sn_s (Gm 17) (sn_f EF') m (sn_r (Gm 17) (sn_c Ez') (sn_f EF') (Gm 18 p0) m) (sn_c Ez' m).toNat else sn_r (Gm 17) (sn_c Ez') (sn_f EF') (Gm 18 p0) m) = (if Gm 17 m = Gm 18 p0 then sn_s (Gm 17) (wr_se Gm) m (sn_r (Gm 17) (Gm 13) (wr_se Gm) (Gm 18 p0) m) (Gm 13 m).toNat else sn_r (Gm 17) (Gm 13) (wr_se Gm) (Gm 18 p0) m)
              rw [ih (by omega), e3, hf.2 13 (by decide)]
              have hk9 : ∀ (j : Nat), (j : Int) ≤ Fm 13 m → sn_s (Gm 17) (sn_f EF') m (sn_r (Gm 17) (Gm 13) (wr_se Gm) (Gm 18 p0) m) j = sn_s (Gm 17) (wr_se Gm) m (sn_r (Gm 17) (Gm 13) (wr_se Gm) (Gm 18 p0) m) j := fun j => by
                induction j with
                | zero => intro _; rfl
                | succ j ihj =>
                  intro hj
                  have e4 : sn_f EF' m j = wr_se Gm m j := by
                    show EF' _ 3 j = Gm 12 (5 * m + j)
                    rw [(he.2 _ 3 (by decide)).2, hf.2 12 (by decide)]
                    exact s2 j (by omega) (by omega)
                  show sn_ad (sn_s (Gm 17) (sn_f EF') m _ j) (Gm 17 (sn_f EF' m j)) = sn_ad (sn_s (Gm 17) (wr_se Gm) m _ j) (Gm 17 (wr_se Gm m j))
                  rw [ihj (by omega), e4]
              rw [hf.2 13 (by decide)] at hk9
              rw [hk9 (Fm 13 m).toNat (by omega)]
          have hc1 := hI.1.hc
          rw [sn_r_cg (n := I 1) (fun e a b => (hs e a b).1) (fun e a b k c d => by
            have s9 := hV e a b
            have e3 : sn_c Ez' e = Fm 13 e := by show Ez' _ 3 = _; rw [he.1 _ 3 (by decide)]; exact s9.1
            rw [e3] at d
            have e4 : sn_f EF' e k = Fm 12 (5 * e + k) := by show EF' _ 3 k = _; rw [(he.2 _ 3 (by decide)).2]; exact s9.2 k c d
            rw [e4]
            exact hI.1.hse e k a b c d) (I 1).toNat (by omega)]
          exact hc9 (I 1).toNat (by omega)
        rw [hse]
      · have d4 : p1 = 4 := by omega
        rw [p4e d4, n4 d4]
        have ew : rs_w (Fm 2) (Fm 3) (rs_sE Ez') (F' 1 p0) 0 = rs_w (Gm 2) (Gm 3) (Gm 17) (Gm 18 p0) 0 := by
          rw [er, hf.2 2 (by decide), hf.2 3 (by decide)]
          rw [er] at er0 er1
          have l0 := hL (Gm 18 p0) er0 er1
          unfold rs_w
          by_cases c0 : Fm 2 (Gm 18 p0) = 0
          · rw [if_pos c0, if_pos c0]
          · have a0 := hs (Fm 3 (Gm 18 p0)) (by omega) (by omega)
            rw [if_neg c0, if_neg c0]
            by_cases c1 : Fm 2 (Gm 18 p0) = 0 + 1
            · rw [if_pos c1, if_pos c1, a0.1]
            · rw [if_neg c1, if_neg c1]
              by_cases c2 : Fm 2 (Gm 18 p0) = 0 + 2
              · rw [if_pos c2, if_pos c2, ← a0.1]
                have ar := ((hrk c15).1 (Fm 3 (Gm 18 p0)) (by omega) (by omega)).1
                have l1 := hL (rs_sE Ez' (Fm 3 (Gm 18 p0))) ar.1 (by omega)
                have a1 := hs (Fm 3 (rs_sE Ez' (Fm 3 (Gm 18 p0)))) (by omega) (by omega)
                rw [a1.1]
              · rw [if_neg c2, if_neg c2]
        have hrg : 0 ≤ rs_w (Gm 2) (Gm 3) (Gm 17) (Gm 18 p0) 0 ∧ rs_w (Gm 2) (Gm 3) (Gm 17) (Gm 18 p0) 0 < I 1 := by
          rw [← ew]
          have l0 := hL (F' 1 p0) er0 er1
          unfold rs_w
          by_cases c0 : Fm 2 (F' 1 p0) = 0
          · rw [if_pos c0]; exact ⟨er0, er1⟩
          · have a0 := hs (Fm 3 (F' 1 p0)) (by omega) (by omega)
            have ar := ((hrk c15).1 (Fm 3 (F' 1 p0)) (by omega) (by omega)).1
            rw [if_neg c0]
            by_cases c1 : Fm 2 (F' 1 p0) = 0 + 1
            · rw [if_pos c1]; omega
            · rw [if_neg c1, if_pos (by omega)]
              have l1 := hL (rs_sE Ez' (Fm 3 (F' 1 p0))) ar.1 (by omega)
              have ar2 := ((hrk c15).1 (Fm 3 (rs_sE Ez' (Fm 3 (F' 1 p0)))) (by omega) (by omega)).1
              omega
        rw [ew, he.1 _ 2 (by decide), (he.2 _ 2 (by decide)).2, (hQ _ hrg.1 hrg.2).2.2.2.2]
        unfold kf_ky
        rw [hf.1 14 (by decide), hf.1 15 (by decide), kf_sg_fr (hf.2 4 (by decide)), hf.2 5 (by decide)]
    rw [hvr]
  · obtain ⟨e12, e1, e19, hrow, hs⟩ := hcom hx he hrk c15
    subst c1
    rcases hm with ⟨m0, mb⟩ | ⟨m0, mg, -⟩
    · exact ⟨m0, fun h9 => absurd h9 (by decide)⟩
    · exact absurd (show (0 ≤ p0 ∧ p0 < z' 1) ∧ 0 ≤ p1 ∧ p1 ≤ 4 by omega) hbad
end NST
