/-! class and reference, call by call: signs, ranks, keys -/
def kE (ez : Nat → Int) (ef : Nat → Int → Int) (I : Nat → Int) (Fm : Nat → Int → Int) (e : Int) : Prop := (∀ i, 0 ≤ i → i < Fm 5 e → ef 0 i = Fm 4 (20 * e + i)) ∧ kf_mSg Fm e ∧ ez 1 = Fm 5 e ∧ (∀ i, 0 ≤ i → i < Fm 5 e → ef 1 i = kf_rk (Fm 4 (20 * e + i))) ∧ kf_ls (ef 2) 0 (ez 2).toNat = kf_ky I Fm e
def lawK (Ez : Nat → Nat → Int) (EF : Nat → Nat → Int → Int) (I : Nat → Int) (Fm : Nat → Int → Int) : Prop := ∀ e, 0 ≤ e → e < I 1 → kE (Ez ((e + 1).toNat)) (EF ((e + 1).toNat)) I Fm e
def lawR2 (z : Nat → Int) (Ez : Nat → Nat → Int) (EF : Nat → Nat → Int → Int) (I : Nat → Int) (Fm : Nat → Int → Int) : Prop := lawR z Ez EF I Fm ∧ lawK Ez EF I Fm
theorem kE.keep {ez ez' : Nat → Int} {ef ef' Fm Gm : Nat → Int → Int} {I J : Nat → Int} {e : Int} (h : kE ez ef I Fm e) (a1 : ez' 1 = ez 1) (a2 : ez' 2 = ez 2) (f0 : ef' 0 = ef 0) (f1 : ef' 1 = ef 1) (f2 : ef' 2 = ef 2) (b4 : Gm 4 = Fm 4) (b5 : Gm 5 = Fm 5) (i14 : J 14 = I 14) (i15 : J 15 = I 15) : kE ez' ef' J Gm e := by
  unfold kE kf_mSg kf_ky at h ⊢
  rw [a1, a2, f0, f1, f2, kf_sg_fr b4, b4, b5, i14, i15]
  exact h
section KST
variable {k : Int} {n n' : Nat → Nat} {z z' : Nat → Int} {F F' : Nat → Int → Int} {N N' : Nat} {En En' : Nat → Nat → Nat} {Ez Ez' : Nat → Nat → Int} {EF EF' : Nat → Nat → Int → Int} {fo' : Nat → Int64} {I J : Nat → Int} {Fm Gm : Nat → Int → Int} {q rr : Int}
theorem lawK.keep {S2 T2 : List Nat} (h : lawK Ez EF I Fm) (he : eFr S2 T2 En Ez EF En' Ez' EF') (h2 : 1 ∉ S2 ∧ 2 ∉ S2) (h3 : 0 ∉ T2 ∧ 1 ∉ T2 ∧ 2 ∉ T2) (b1 : J 1 = I 1) (b14 : J 14 = I 14) (b15 : J 15 = I 15) (f4 : Gm 4 = Fm 4) (f5 : Gm 5 = Fm 5) : lawK Ez' EF' J Gm := by
  intro e h8 h9
  rw [b1] at h9
  exact (h e h8 h9).keep (he.1 _ 1 h2.1) (he.1 _ 2 h2.2) (he.2 _ 0 h3.1).2 (he.2 _ 1 h3.2.1).2 (he.2 _ 2 h3.2.2).2 f4 f5 b14 b15
theorem lawK.ask {S2 T2 : List Nat} (h : lawK Ez EF I Fm) (he : eFr S2 T2 En Ez EF En' Ez' EF') (h2 : 1 ∉ S2 ∧ 2 ∉ S2) (h3 : 0 ∉ T2 ∧ 1 ∉ T2 ∧ 2 ∉ T2) (hw : mWk I Fm J Gm) : lawK Ez' EF' J Gm :=
  h.keep he h2 h3 (hw.2.1.1 1 (by decide)) (hw.2.1.1 14 (by decide)) (hw.2.1.1 15 (by decide)) (hw.2.1.2 4 (by decide)) (hw.2.1.2 5 (by decide))
theorem lawK.sgs (h : lawK Ez EF I Fm) : ∀ e, 0 ≤ e → e < I 1 → kf_mSg Fm e := fun e h1 h2 => (h e h1 h2).2.1
theorem lawK.rng (h : lawK Ez EF I Fm) (hR : lawR z Ez EF I Fm) {e : Int} (h0 : 0 ≤ e) (h1 : e < I 1) : ∀ i, 0 ≤ i → i < Ez ((e + 1).toNat) 0 → 0 ≤ EF ((e + 1).toNat) 0 i ∧ EF ((e + 1).toNat) 0 i ≤ 255 := by
  intro i a b
  have e5 := (hR.2.2.2.2 e h0 h1).2.1
  obtain ⟨k1, k2, -⟩ := h e h0 h1
  rw [k1 i a (by omega)]
  exact k2 i a (by omega)
theorem lawK.rngA (h : lawK Ez EF I Fm) (hR : lawR z Ez EF I Fm) (hN3 : (N : Int) = z 12 + 1) : ∀ j : Nat, 1 ≤ j → j < N → ∀ i, 0 ≤ i → i < Ez j 0 → 0 ≤ EF j 0 i ∧ EF j 0 i ≤ 255 := by
  intro j h1 h2
  have a12 := hR.2.1
  have q := h.rng hR (e := (j : Int) - 1) (by omega) (by omega)
  rw [show ((j : Int) - 1 + 1).toNat = j by omega] at q
  exact q
theorem sk_style {p0 : Int} (hI : mIk k I Fm) (hk : k < 64) (hR : lawR z Ez EF I Fm) (hQ : lawK Ez EF I Fm) (hc : N' = N ∧ ((q = 0 ∧ xFr [3] [3] z F z' F' ∧ eFr [] [] En Ez EF En' Ez' EF' ∧ ∃ v : Int, fo' 0 = Int32.toInt64 (iz v) ∧ ((0 ≤ p0 ∧ p0 ≤ 127) ∧ ((p0 = 0 ∧ v = 0 ∧ z' 3 = 0) ∨ (0 < p0 ∧ v = z 3 + 1 ∧ z' 3 = z 3 + 1)))) ∨ ((xFr [] [] z F z' F' ∧ eFr [] [] En Ez EF En' Ez' EF') ∧ ((q = 1 ∧ (p0 < 0 ∨ 127 < p0)) ∨ (q = 2 ∧ (80 ≤ z 3)))))) (hm : (rr = 0 ∧ Gm = Fm ∧ J = va_up I 0 1 ∧ (p0 < 0 ∨ 127 < p0)) ∨ (rr = 0 ∧ Gm = Fm ∧ J = va_up (va_up I 0 0) 37 0 ∧ p0 = 0) ∨ (Gm = va_up Fm 36 (upI (Fm 36) (I 37) p0) ∧ J = va_up (va_up I 0 0) 37 (I 37 + 1) ∧ rr = I 37 + 1 ∧ 0 < p0 ∧ p0 ≤ 127)) : J 0 = q ∧ (q = 0 → fo' 0 = Int32.toInt64 (iz rr)) ∧ lawR z' Ez' EF' J Gm ∧ mIk (k + 1) J Gm ∧ lawK Ez' EF' J Gm := by
  obtain ⟨g1, g2, g3, g4⟩ := st_style hI hk hR hc hm
  have hk9 : lawK Ez' EF' J Gm := by
    obtain ⟨hN, hc⟩ := hc
    have hfr : ∃ S2 T2 : List Nat, eFr S2 T2 En Ez EF En' Ez' EF' ∧ (1 ∉ S2 ∧ 2 ∉ S2) ∧ (0 ∉ T2 ∧ 1 ∉ T2 ∧ 2 ∉ T2) := by
      rcases hc with ⟨-, -, h2, -⟩ | ⟨⟨-, h2⟩, -⟩
      · exact ⟨_, _, h2, by decide, by decide⟩
      · exact ⟨_, _, h2, by decide, by decide⟩
    obtain ⟨S2, T2, he, d1, d2⟩ := hfr
    rcases hm with ⟨m1, rfl, rfl, m2⟩ | ⟨m1, rfl, rfl, m2⟩ | ⟨rfl, rfl, m1, m2, m3⟩ <;> exact hQ.keep he d1 d2 rfl rfl rfl rfl rfl
  exact ⟨g1, g2, g3, g4, hk9⟩
theorem sk_page {p0 p1 p2 : Int} (hI : mIk k I Fm) (hk : k < 64) (hR : lawR z Ez EF I Fm) (hQ : lawK Ez EF I Fm) (hkd : -2147483648 ≤ p1 ∧ p1 < 2147483648) (hc : N' = N ∧ ((q = 0 ∧ xFr [16] [] z F z' F' ∧ eFr [4, 5, 6] [4, 5, 6] En Ez EF En' Ez' EF' ∧ ∃ v : Int, fo' 0 = Int32.toInt64 (iz v) ∧ ((0 ≤ p0 ∧ p0 < z 12) ∧ (1 ≤ p2 ∧ ((p1 = 0 ∧ p2 ≤ 3999) ∨ (p1 = 1 ∧ p2 ≤ 99999) ∨ (p1 = 2 ∧ p2 ≤ 702))) ∧ Ez ((p0 + 1).toNat) 4 < 20 ∧ v = Ez ((p0 + 1).toNat) 4 + 1 ∧ Ez' ((p0 + 1).toNat) 4 = Ez ((p0 + 1).toNat) 4 + 1 ∧ (∀ i, 0 ≤ i → i < Ez ((p0 + 1).toNat) 4 → EF' ((p0 + 1).toNat) 4 i = EF ((p0 + 1).toNat) 4 i) ∧ (∀ j, j ≠ ((p0 + 1).toNat) → Ez' j = Ez j ∧ EF' j = EF j))) ∨ ((xFr [] [] z F z' F' ∧ eFr [] [] En Ez EF En' Ez' EF') ∧ ((q = 1 ∧ (¬ (0 ≤ p0 ∧ p0 < z 12))) ∨ (q = 2 ∧ ((0 ≤ p0 ∧ p0 < z 12) ∧ ¬ (1 ≤ p2 ∧ ((p1 = 0 ∧ p2 ≤ 3999) ∨ (p1 = 1 ∧ p2 ≤ 99999) ∨ (p1 = 2 ∧ p2 ≤ 702))))) ∨ (q = 3 ∧ ((0 ≤ p0 ∧ p0 < z 12) ∧ (1 ≤ p2 ∧ ((p1 = 0 ∧ p2 ≤ 3999) ∨ (p1 = 1 ∧ p2 ≤ 99999) ∨ (p1 = 2 ∧ p2 ≤ 702))) ∧ 20 ≤ Ez ((p0 + 1).toNat) 4)))))) (hm : (rr = 0 ∧ Gm = Fm ∧ J = va_up I 0 1 ∧ (p0 < 0 ∨ I 1 ≤ p0)) ∨ (rr = 0 ∧ Gm = Fm ∧ J = va_up I 0 2 ∧ (0 ≤ p0 ∧ p0 < I 1) ∧ ¬ (1 ≤ p2 ∧ ((p1 = 0 ∧ p2 ≤ 3999) ∨ (p1 = 1 ∧ p2 ≤ 99999) ∨ (p1 = 2 ∧ p2 ≤ 702)))) ∨ (rr = 0 ∧ Gm = Fm ∧ J = va_up I 0 3 ∧ (0 ≤ p0 ∧ p0 < I 1) ∧ (1 ≤ p2 ∧ ((p1 = 0 ∧ p2 ≤ 3999) ∨ (p1 = 1 ∧ p2 ≤ 99999) ∨ (p1 = 2 ∧ p2 ≤ 702))) ∧ Fm 10 p0 + (if 0 < Fm 11 p0 then 1 else 0) = 20) ∨ (J = va_up I 0 0 ∧ Gm = va_up (va_up (va_up (va_up (va_up Fm 6 (upI (Fm 6) (20 * p0 + Fm 10 p0) p1)) 7 (upI (Fm 7) (20 * p0 + Fm 10 p0) p2)) 8 (upI (Fm 8) (20 * p0 + Fm 10 p0) p2)) 9 (upI (Fm 9) (20 * p0 + Fm 10 p0) (vp_nar .boolean (iz 0)).toInt)) 10 (upI (Fm 10) p0 (Fm 10 p0 + 1)) ∧ rr = Fm 10 p0 + (if 0 < Fm 11 p0 then 1 else 0) + 1 ∧ (0 ≤ p0 ∧ p0 < I 1) ∧ (1 ≤ p2 ∧ ((p1 = 0 ∧ p2 ≤ 3999) ∨ (p1 = 1 ∧ p2 ≤ 99999) ∨ (p1 = 2 ∧ p2 ≤ 702))) ∧ ¬ Fm 10 p0 + (if 0 < Fm 11 p0 then 1 else 0) = 20)) : J 0 = q ∧ (q = 0 → fo' 0 = Int32.toInt64 (iz rr)) ∧ lawR z' Ez' EF' J Gm ∧ mIk (k + 1) J Gm ∧ lawK Ez' EF' J Gm := by
  obtain ⟨g1, g2, g3, g4⟩ := st_page hI hk hR hkd hc hm
  have hk9 : lawK Ez' EF' J Gm := by
    obtain ⟨hN, hc⟩ := hc
    have hfr : ∃ S2 T2 : List Nat, eFr S2 T2 En Ez EF En' Ez' EF' ∧ (1 ∉ S2 ∧ 2 ∉ S2) ∧ (0 ∉ T2 ∧ 1 ∉ T2 ∧ 2 ∉ T2) := by
      rcases hc with ⟨-, -, h2, -⟩ | ⟨⟨-, h2⟩, -⟩
      · exact ⟨_, _, h2, by decide, by decide⟩
      · exact ⟨_, _, h2, by decide, by decide⟩
    obtain ⟨S2, T2, he, d1, d2⟩ := hfr
    rcases hm with ⟨m1, rfl, rfl, m2⟩ | ⟨m1, rfl, rfl, m2, m3⟩ | ⟨m1, rfl, rfl, m2, m3, m4⟩ | ⟨rfl, rfl, m1, m2, m3, m4⟩ <;> exact hQ.keep he d1 d2 rfl rfl rfl rfl rfl
  exact ⟨g1, g2, g3, g4, hk9⟩
theorem sk_range {p0 p1 p2 : Int} (hI : mIk k I Fm) (hk : k < 64) (hR : lawR z Ez EF I Fm) (hQ : lawK Ez EF I Fm) (hp2 : p2 = 0 ∨ p2 = 1) (hc : N' = N ∧ ((q = 0 ∧ xFr [16] [] z F z' F' ∧ eFr [4, 5, 6, 9] [4, 5, 6] En Ez EF En' Ez' EF' ∧ ∃ v : Int, fo' 0 = Int32.toInt64 (iz v) ∧ ((0 ≤ p0 ∧ p0 < z 12) ∧ (1 ≤ p1 ∧ p1 ≤ 99999) ∧ ((p2 = 0 ∧ 0 ≤ Ez ((p0 + 1).toNat) 9 ∧ v = 0 ∧ Ez' ((p0 + 1).toNat) 9 = Ez ((p0 + 1).toNat) 9 ∧ Ez' ((p0 + 1).toNat) 4 = Ez ((p0 + 1).toNat) 4 ∧ EF' ((p0 + 1).toNat) 4 = EF ((p0 + 1).toNat) 4) ∨ (p2 = 0 ∧ Ez ((p0 + 1).toNat) 9 < 0 ∧ Ez ((p0 + 1).toNat) 4 < 20 ∧ v = 1 ∧ Ez' ((p0 + 1).toNat) 9 = Ez ((p0 + 1).toNat) 4 ∧ Ez' ((p0 + 1).toNat) 4 = Ez ((p0 + 1).toNat) 4 + 1 ∧ EF' ((p0 + 1).toNat) 4 (Ez ((p0 + 1).toNat) 4) = 100000 + p1) ∨ (¬ p2 = 0 ∧ v = 0 ∧ Ez' ((p0 + 1).toNat) 9 = Ez ((p0 + 1).toNat) 9 ∧ Ez' ((p0 + 1).toNat) 4 = Ez ((p0 + 1).toNat) 4 ∧ EF' ((p0 + 1).toNat) 4 = EF ((p0 + 1).toNat) 4 ∧ (0 ≤ Ez ((p0 + 1).toNat) 9 → Ez ((p0 + 1).toNat) 9 < Ez ((p0 + 1).toNat) 4 → 100000 + p1 < EF ((p0 + 1).toNat) 4 (Ez ((p0 + 1).toNat) 9))) ∨ (¬ p2 = 0 ∧ v = 1 ∧ 0 ≤ Ez ((p0 + 1).toNat) 9 ∧ (Ez ((p0 + 1).toNat) 9 < Ez ((p0 + 1).toNat) 4 → EF ((p0 + 1).toNat) 4 (Ez ((p0 + 1).toNat) 9) ≤ 100000 + p1) ∧ Ez' ((p0 + 1).toNat) 9 = -1 ∧ Ez' ((p0 + 1).toNat) 4 = Ez ((p0 + 1).toNat) 4 ∧ EF' ((p0 + 1).toNat) 4 = EF ((p0 + 1).toNat) 4)) ∧ (∀ j, j ≠ ((p0 + 1).toNat) → Ez' j = Ez j ∧ EF' j = EF j))) ∨ ((xFr [] [] z F z' F' ∧ eFr [] [] En Ez EF En' Ez' EF') ∧ ((q = 1 ∧ (¬ (0 ≤ p0 ∧ p0 < z 12))) ∨ (q = 2 ∧ ((0 ≤ p0 ∧ p0 < z 12) ∧ ¬ (1 ≤ p1 ∧ p1 ≤ 99999))) ∨ (q = 3 ∧ ((0 ≤ p0 ∧ p0 < z 12) ∧ (1 ≤ p1 ∧ p1 ≤ 99999) ∧ p2 = 0 ∧ Ez ((p0 + 1).toNat) 9 < 0 ∧ 20 ≤ Ez ((p0 + 1).toNat) 4)))))) (hm : (rr = 0 ∧ Gm = Fm ∧ J = va_up I 0 1 ∧ (p0 < 0 ∨ I 1 ≤ p0)) ∨ (rr = 0 ∧ Gm = Fm ∧ J = va_up I 0 2 ∧ (0 ≤ p0 ∧ p0 < I 1) ∧ (p1 < 1 ∨ 99999 < p1)) ∨ (rr = 0 ∧ Gm = Fm ∧ J = va_up I 0 3 ∧ (0 ≤ p0 ∧ p0 < I 1) ∧ (1 ≤ p1 ∧ p1 ≤ 99999) ∧ p2 = 0 ∧ Fm 11 p0 = 0 ∧ Fm 10 p0 = 20) ∨ (rr = 1 ∧ J = va_up I 0 0 ∧ Gm = va_up Fm 11 (upI (Fm 11) p0 p1) ∧ (0 ≤ p0 ∧ p0 < I 1) ∧ (1 ≤ p1 ∧ p1 ≤ 99999) ∧ p2 = 0 ∧ Fm 11 p0 = 0 ∧ ¬ Fm 10 p0 = 20) ∨ (rr = 0 ∧ J = va_up I 0 0 ∧ Gm = Fm ∧ (0 ≤ p0 ∧ p0 < I 1) ∧ (1 ≤ p1 ∧ p1 ≤ 99999) ∧ ((p2 = 0 ∧ ¬ Fm 11 p0 = 0) ∨ (¬ p2 = 0 ∧ (Fm 11 p0 = 0 ∨ p1 < Fm 11 p0)))) ∨ (rr = 1 ∧ J = va_up I 0 0 ∧ Gm = va_up (va_up (va_up (va_up (va_up (va_up Fm 6 (upI (Fm 6) (20 * p0 + Fm 10 p0) 1)) 7 (upI (Fm 7) (20 * p0 + Fm 10 p0) (Fm 11 p0))) 8 (upI (Fm 8) (20 * p0 + Fm 10 p0) p1)) 9 (upI (Fm 9) (20 * p0 + Fm 10 p0) (vp_nar .boolean (iz 1)).toInt)) 10 (upI (Fm 10) p0 (Fm 10 p0 + 1))) 11 (upI (Fm 11) p0 0) ∧ (0 ≤ p0 ∧ p0 < I 1) ∧ (1 ≤ p1 ∧ p1 ≤ 99999) ∧ ¬ p2 = 0 ∧ ¬ Fm 11 p0 = 0 ∧ Fm 11 p0 ≤ p1)) : J 0 = q ∧ (q = 0 → fo' 0 = Int32.toInt64 (iz rr)) ∧ lawR z' Ez' EF' J Gm ∧ mIk (k + 1) J Gm ∧ lawK Ez' EF' J Gm := by
  obtain ⟨g1, g2, g3, g4⟩ := st_range hI hk hR hp2 hc hm
  have hk9 : lawK Ez' EF' J Gm := by
    obtain ⟨hN, hc⟩ := hc
    have hfr : ∃ S2 T2 : List Nat, eFr S2 T2 En Ez EF En' Ez' EF' ∧ (1 ∉ S2 ∧ 2 ∉ S2) ∧ (0 ∉ T2 ∧ 1 ∉ T2 ∧ 2 ∉ T2) := by
      rcases hc with ⟨-, -, h2, -⟩ | ⟨⟨-, h2⟩, -⟩
      · exact ⟨_, _, h2, by decide, by decide⟩
      · exact ⟨_, _, h2, by decide, by decide⟩
    obtain ⟨S2, T2, he, d1, d2⟩ := hfr
    rcases hm with ⟨m1, rfl, rfl, m2⟩ | ⟨m1, rfl, rfl, m2, m3⟩ | ⟨m1, rfl, rfl, m2, m3, m4, m5, m6⟩ | ⟨m1, rfl, rfl, m2, m3, m4, m5, m6⟩ | ⟨m1, rfl, rfl, m2, m3, m4⟩ | ⟨m1, rfl, rfl, m2, m3, m4, m5, m6⟩ <;> exact hQ.keep he d1 d2 rfl rfl rfl rfl rfl
  exact ⟨g1, g2, g3, g4, hk9⟩
theorem sk_see {p0 p1 : Int} (hI : mIk k I Fm) (hk : k < 64) (hR : lawR z Ez EF I Fm) (hQ : lawK Ez EF I Fm) (hc : N' = N ∧ ((q = 0 ∧ xFr [] [] z F z' F' ∧ eFr [3] [3] En Ez EF En' Ez' EF' ∧ ∃ v : Int, fo' 0 = Int32.toInt64 (iz v) ∧ (v = 0 ∨ v = 1)) ∨ ((xFr [] [] z F z' F' ∧ eFr [] [] En Ez EF En' Ez' EF') ∧ ((q = 1 ∧ (True)) ∨ (q = 2 ∧ (True)))))) (hm : (rr = 0 ∧ Gm = Fm ∧ J = va_up I 0 1) ∨ (rr = 0 ∧ Gm = Fm ∧ J = va_up I 0 2) ∨ (rr = 0 ∧ Gm = Fm ∧ J = va_up I 0 0) ∨ (rr = 1 ∧ J = va_up I 0 0 ∧ Gm = va_up (va_up Fm 12 (upI (Fm 12) (5 * p0 + Fm 13 p0) p1)) 13 (upI (Fm 13) p0 (Fm 13 p0 + 1)) ∧ (0 ≤ p0 ∧ p0 < I 1) ∧ (0 ≤ p1 ∧ p1 < I 1) ∧ Fm 13 p0 < 5)) : lawR z' Ez' EF' J Gm ∧ mIk (k + 1) J Gm ∧ lawK Ez' EF' J Gm := by
  obtain ⟨g3, g4⟩ := st_see hI hk hR hc hm
  have hk9 : lawK Ez' EF' J Gm := by
    obtain ⟨hN, hc⟩ := hc
    have hfr : ∃ S2 T2 : List Nat, eFr S2 T2 En Ez EF En' Ez' EF' ∧ (1 ∉ S2 ∧ 2 ∉ S2) ∧ (0 ∉ T2 ∧ 1 ∉ T2 ∧ 2 ∉ T2) := by
      rcases hc with ⟨-, -, h2, -⟩ | ⟨⟨-, h2⟩, -⟩
      · exact ⟨_, _, h2, by decide, by decide⟩
      · exact ⟨_, _, h2, by decide, by decide⟩
    obtain ⟨S2, T2, he, d1, d2⟩ := hfr
    rcases hm with ⟨m1, rfl, rfl⟩ | ⟨m1, rfl, rfl⟩ | ⟨m1, rfl, rfl⟩ | ⟨m1, rfl, rfl, m2, m3, m4⟩ <;> exact hQ.keep he d1 d2 rfl rfl rfl rfl rfl
  exact ⟨g3, g4, hk9⟩
theorem sk_entry {p0 p1 : Int} (hI : mIk k I Fm) (hk : k < 64) (hR : lawR z Ez EF I Fm) (hQ : lawK Ez EF I Fm) (hN3 : (N : Int) = z 12 + 1) (hc : (q = 0 ∧ ∃ v : Int, fo' 0 = Int32.toInt64 (iz v) ∧ N' = N + 1 ∧ xFr [12, 15, 16] [] z F z' F' ∧ v = z 12 ∧ z' 12 = z 12 + 1 ∧ ((p0 = 0 ∧ p1 = -1) ∨ ((p0 = 1 ∨ p0 = 2) ∧ 0 ≤ p1 ∧ p1 < z 12 ∧ Ez ((p1 + 1).toNat) 7 = p0 - 1)) ∧ (∀ j, j < N → Ez' j = Ez j ∧ EF' j = EF j) ∧ Ez' N 7 = p0 ∧ Ez' N 0 = 0 ∧ Ez' N 4 = 0 ∧ Ez' N 9 = -1 ∧ Ez' N 1 = 0 ∧ Ez' N 2 = 0) ∨ ((N' = N ∧ xFr [] [] z F z' F' ∧ eFr [] [] En Ez EF En' Ez' EF' ∧ z' 12 = z 12) ∧ ((q = 1 ∧ (¬ p1 = -1 ∧ ¬ (0 ≤ p1 ∧ p1 < z 12))) ∨ (q = 2 ∧ ((p1 = -1 ∨ (0 ≤ p1 ∧ p1 < z 12)) ∧ ¬ ((p0 = 0 ∧ p1 = -1) ∨ ((p0 = 1 ∨ p0 = 2) ∧ 0 ≤ p1 ∧ p1 < z 12 ∧ Ez ((p1 + 1).toNat) 7 = p0 - 1))))))) (hm : (rr = 0 ∧ Gm = Fm ∧ J = va_up I 0 1 ∧ ¬ p1 = -1 ∧ (p1 < 0 ∨ I 1 ≤ p1)) ∨ (rr = 0 ∧ Gm = Fm ∧ J = va_up I 0 2 ∧ (p1 = -1 ∨ (0 ≤ p1 ∧ p1 < I 1)) ∧ ¬ ((p0 = 0 ∧ p1 = -1) ∨ ((p0 = 1 ∨ p0 = 2) ∧ 0 ≤ p1 ∧ p1 < I 1 ∧ Fm 2 p1 = p0 - 1))) ∨ (J = va_up (va_up (va_up I 0 0) 16 0) 1 (I 1 + 1) ∧ Gm = va_up (va_up Fm 2 (upI (Fm 2) (I 1) p0)) 3 (upI (Fm 3) (I 1) p1) ∧ rr = I 1 ∧ ((p0 = 0 ∧ p1 = -1) ∨ ((p0 = 1 ∨ p0 = 2) ∧ 0 ≤ p1 ∧ p1 < I 1 ∧ Fm 2 p1 = p0 - 1)))) : J 0 = q ∧ (q = 0 → fo' 0 = Int32.toInt64 (iz rr)) ∧ lawR z' Ez' EF' J Gm ∧ mIk (k + 1) J Gm ∧ lawK Ez' EF' J Gm := by
  have hw : (q = 0 ∧ ∃ v : Int, fo' 0 = Int32.toInt64 (iz v) ∧ N' = N + 1 ∧ xFr [12, 15, 16] [] z F z' F' ∧ v = z 12 ∧ z' 12 = z 12 + 1 ∧ ((p0 = 0 ∧ p1 = -1) ∨ ((p0 = 1 ∨ p0 = 2) ∧ 0 ≤ p1 ∧ p1 < z 12 ∧ Ez ((p1 + 1).toNat) 7 = p0 - 1)) ∧ (∀ j, j < N → Ez' j = Ez j ∧ EF' j = EF j) ∧ Ez' N 7 = p0 ∧ Ez' N 0 = 0 ∧ Ez' N 4 = 0 ∧ Ez' N 9 = -1) ∨ ((N' = N ∧ xFr [] [] z F z' F' ∧ eFr [] [] En Ez EF En' Ez' EF' ∧ z' 12 = z 12) ∧ ((q = 1 ∧ (¬ p1 = -1 ∧ ¬ (0 ≤ p1 ∧ p1 < z 12))) ∨ (q = 2 ∧ ((p1 = -1 ∨ (0 ≤ p1 ∧ p1 < z 12)) ∧ ¬ ((p0 = 0 ∧ p1 = -1) ∨ ((p0 = 1 ∨ p0 = 2) ∧ 0 ≤ p1 ∧ p1 < z 12 ∧ Ez ((p1 + 1).toNat) 7 = p0 - 1)))))) := by
    rcases hc with ⟨c1, v, c2, e1, hx, e2, e3, e4, hel, e5, e6, e7, e8, x1, x2⟩ | c3
    · exact Or.inl ⟨c1, v, c2, e1, hx, e2, e3, e4, hel, e5, e6, e7, e8⟩
    · exact Or.inr c3
  obtain ⟨g1, g2, g3, g4⟩ := st_entry hI hk hR hN3 hw hm
  have hk9 : lawK Ez' EF' J Gm := by
    have hz12 := hR.2.1
    have hf0 := hI.2.2.1
    have hc1 := hI.1.hc
    rcases hc with ⟨c1, v, c2, e1, hx, e2, e3, e4, hel, e5, e6, e7, e8, x1, x2⟩ | ⟨⟨hN, hx, he, hz⟩, c3⟩
    · rcases hm with ⟨m1, rfl, rfl, m2, m3⟩ | ⟨m1, rfl, rfl, m2, m3⟩ | ⟨rfl, rfl, m1, m2⟩
      · exact absurd (show (1 : Int) = q from g1) (by omega)
      · exact absurd (show (2 : Int) = q from g1) (by omega)
      · intro e h8 h9
        have h9' : e < I 1 + 1 := h9
        by_cases c : e = I 1
        · subst c
          have hj : (I 1 + 1).toNat = N := by omega
          rw [hj]
          have q5 : Fm 5 (I 1) = 0 := (hf0 (I 1) (Int.le_refl _)).1
          refine ⟨fun i a b => absurd (show i < Fm 5 (I 1) from b) (by omega), fun i a b => absurd (show i < Fm 5 (I 1) from b) (by omega), ?_, fun i a b => absurd (show i < Fm 5 (I 1) from b) (by omega), ?_⟩
          · rw [x1]; exact q5.symm
          · rw [x2]
            show [] = kf_kI _ (Fm 5 (I 1)) _ _ 0 0 0
            rw [q5, kf_kI_end _ _ _ _ _ _ _ (Int.le_refl 0)]
        · have hj : (e + 1).toNat < N := by omega
          obtain ⟨y1, y2⟩ := hel _ hj
          exact (hQ e h8 (by omega)).keep (by rw [y1]) (by rw [y1]) (by rw [y2]) (by rw [y2]) (by rw [y2]) rfl rfl rfl rfl
    · have hq0 : ¬ q = 0 := by rcases c3 with ⟨c1, -⟩ | ⟨c1, -⟩ <;> omega
      rcases hm with ⟨m1, rfl, rfl, m2, m3⟩ | ⟨m1, rfl, rfl, m2, m3⟩ | ⟨rfl, rfl, m1, m2⟩
      · exact hQ.keep he (by decide) (by decide) rfl rfl rfl rfl rfl
      · exact hQ.keep he (by decide) (by decide) rfl rfl rfl rfl rfl
      · exact absurd (show (0 : Int) = q from g1).symm hq0
  exact ⟨g1, g2, g3, g4, hk9⟩
theorem sk_sign {p0 p1 : Int} (hI : mIk k I Fm) (hk : k < 64) (hR : lawR z Ez EF I Fm) (hQ : lawK Ez EF I Fm) (hc : N' = N ∧ ((q = 0 ∧ xFr [15, 16] [] z F z' F' ∧ eFr [0, 1, 2] [0, 1, 2] En Ez EF En' Ez' EF' ∧ ∃ v : Int, fo' 0 = Int32.toInt64 (iz v) ∧ (((0 ≤ p0 ∧ p0 < z 12) ∧ (0 ≤ p1 ∧ p1 ≤ 255) ∧ Ez ((p0 + 1).toNat) 0 < 20 ∧ v = Ez ((p0 + 1).toNat) 0 + 1 ∧ Ez' ((p0 + 1).toNat) 0 = Ez ((p0 + 1).toNat) 0 + 1 ∧ (∀ j, j ≠ ((p0 + 1).toNat) → Ez' j = Ez j ∧ EF' j = EF j)) ∧ (iAdd 20 (Ez ((p0 + 1).toNat) 0) (EF ((p0 + 1).toNat) 0) (Ez' ((p0 + 1).toNat) 0) (EF' ((p0 + 1).toNat) 0) p1 ∧ iAdd 20 (Ez ((p0 + 1).toNat) 1) (EF ((p0 + 1).toNat) 1) (Ez' ((p0 + 1).toNat) 1) (EF' ((p0 + 1).toNat) 1) (kf_rk p1) ∧ kf_ls (EF' ((p0 + 1).toNat) 2) 0 (Ez' ((p0 + 1).toNat) 2).toNat = kf_kI (EF' ((p0 + 1).toNat) 0) (Ez' ((p0 + 1).toNat) 0) (z 13) (z 14) 0 0 0))) ∨ ((xFr [] [] z F z' F' ∧ eFr [] [] En Ez EF En' Ez' EF') ∧ ((q = 1 ∧ (¬ (0 ≤ p0 ∧ p0 < z 12))) ∨ (q = 2 ∧ ((0 ≤ p0 ∧ p0 < z 12) ∧ (p1 < 0 ∨ 255 < p1))) ∨ (q = 3 ∧ ((0 ≤ p0 ∧ p0 < z 12) ∧ (0 ≤ p1 ∧ p1 ≤ 255) ∧ 20 ≤ Ez ((p0 + 1).toNat) 0)))))) (hm : (rr = 0 ∧ Gm = Fm ∧ J = va_up I 0 1 ∧ (p0 < 0 ∨ I 1 ≤ p0)) ∨ (rr = 0 ∧ Gm = Fm ∧ J = va_up I 0 2 ∧ (0 ≤ p0 ∧ p0 < I 1) ∧ (p1 < 0 ∨ 255 < p1)) ∨ (rr = 0 ∧ Gm = Fm ∧ J = va_up I 0 3 ∧ (0 ≤ p0 ∧ p0 < I 1) ∧ (0 ≤ p1 ∧ p1 ≤ 255) ∧ Fm 5 p0 = 20) ∨ (J = va_up (va_up I 0 0) 16 0 ∧ Gm = va_up (va_up Fm 4 (upI (Fm 4) (20 * p0 + Fm 5 p0) p1)) 5 (upI (Fm 5) p0 (Fm 5 p0 + 1)) ∧ rr = Fm 5 p0 + 1 ∧ (0 ≤ p0 ∧ p0 < I 1) ∧ (0 ≤ p1 ∧ p1 ≤ 255) ∧ ¬ Fm 5 p0 = 20)) : J 0 = q ∧ (q = 0 → fo' 0 = Int32.toInt64 (iz rr)) ∧ lawR z' Ez' EF' J Gm ∧ mIk (k + 1) J Gm ∧ lawK Ez' EF' J Gm := by
  have hw : N' = N ∧ ((q = 0 ∧ xFr [15, 16] [] z F z' F' ∧ eFr [0, 1, 2] [0, 1, 2] En Ez EF En' Ez' EF' ∧ ∃ v : Int, fo' 0 = Int32.toInt64 (iz v) ∧ ((0 ≤ p0 ∧ p0 < z 12) ∧ (0 ≤ p1 ∧ p1 ≤ 255) ∧ Ez ((p0 + 1).toNat) 0 < 20 ∧ v = Ez ((p0 + 1).toNat) 0 + 1 ∧ Ez' ((p0 + 1).toNat) 0 = Ez ((p0 + 1).toNat) 0 + 1 ∧ (∀ j, j ≠ ((p0 + 1).toNat) → Ez' j = Ez j ∧ EF' j = EF j))) ∨ ((xFr [] [] z F z' F' ∧ eFr [] [] En Ez EF En' Ez' EF') ∧ ((q = 1 ∧ (¬ (0 ≤ p0 ∧ p0 < z 12))) ∨ (q = 2 ∧ ((0 ≤ p0 ∧ p0 < z 12) ∧ (p1 < 0 ∨ 255 < p1))) ∨ (q = 3 ∧ ((0 ≤ p0 ∧ p0 < z 12) ∧ (0 ≤ p1 ∧ p1 ≤ 255) ∧ 20 ≤ Ez ((p0 + 1).toNat) 0))))) := by
    obtain ⟨hN, hc⟩ := hc
    rcases hc with ⟨c1, hx, he, v, c2, c3, c4⟩ | c3
    · exact ⟨hN, Or.inl ⟨c1, hx, he, v, c2, c3⟩⟩
    · exact ⟨hN, Or.inr c3⟩
  obtain ⟨g1, g2, g3, g4⟩ := st_sign hI hk hR hw hm
  have hk9 : lawK Ez' EF' J Gm := by
    obtain ⟨hN, hc⟩ := hc
    rcases hc with ⟨c1, hx, he, v, c2, ⟨d1, d2, d3, d4, d5, oth⟩, a0, a1, ak⟩ | ⟨⟨hx, he⟩, c3⟩
    · rcases hm with ⟨m1, rfl, rfl, m2⟩ | ⟨m1, rfl, rfl, m2, m3⟩ | ⟨m1, rfl, rfl, m2, m3, m4⟩ | ⟨rfl, rfl, m1, m2, m3, m4⟩
      · exact absurd (show (1 : Int) = q from g1) (by omega)
      · exact absurd (show (2 : Int) = q from g1) (by omega)
      · exact absurd (show (3 : Int) = q from g1) (by omega)
      · intro e h8 h9
        have h9' : e < I 1 := h9
        have hn5 := hI.1.hn e
        have hn5p := hI.1.hn p0
        have hr5 := (hR.2.2.2.2 e h8 h9').2.1
        by_cases c : e = p0
        · subst c
          obtain ⟨k1, k2, k3, k4, k5⟩ := hQ e h8 h9'
          have u5 : va_up (va_up Fm 4 (upI (Fm 4) (20 * e + Fm 5 e) p1)) 5 (upI (Fm 5) e (Fm 5 e + 1)) 5 e = Fm 5 e + 1 := upI_self _ _ _
          have u4 : ∀ i, va_up (va_up Fm 4 (upI (Fm 4) (20 * e + Fm 5 e) p1)) 5 (upI (Fm 5) e (Fm 5 e + 1)) 4 (20 * e + i) = if i = Fm 5 e then p1 else Fm 4 (20 * e + i) := by
            intro i
            show upI (Fm 4) (20 * e + Fm 5 e) p1 (20 * e + i) = _
            by_cases c5 : i = Fm 5 e
            · rw [if_pos c5, c5, upI_self]
            · rw [if_neg c5, upI_ne _ _ (by omega)]
          generalize va_up (va_up Fm 4 (upI (Fm 4) (20 * e + Fm 5 e) p1)) 5 (upI (Fm 5) e (Fm 5 e + 1)) = Gm at u4 u5 ⊢
          have s0 : ∀ i, 0 ≤ i → i < Fm 5 e + 1 → EF' ((e + 1).toNat) 0 i = Gm 4 (20 * e + i) := by
            intro i a b
            rw [u4 i]
            by_cases c5 : i = Fm 5 e
            · rw [if_pos c5, c5]
              rcases a0.1 with ⟨w1, w2⟩ | ⟨w1, w2, w3⟩
              · omega
              · rw [← hr5]; exact w3
            · rw [if_neg c5, a0.2 i a (by omega)]
              exact k1 i a (by omega)
          have s2 : ∀ i, 0 ≤ i → i < Fm 5 e + 1 → 0 ≤ Gm 4 (20 * e + i) ∧ Gm 4 (20 * e + i) ≤ 255 := by
            intro i a b
            rw [u4 i]
            by_cases c5 : i = Fm 5 e
            · rw [if_pos c5]; exact m3
            · rw [if_neg c5]; exact k2 i a (by omega)
          have z0 : Ez' ((e + 1).toNat) 0 = Fm 5 e + 1 := by omega
          refine ⟨fun i a b => s0 i a (by omega), fun i a b => s2 i a (by omega), ?_, fun i a b => ?_, ?_⟩
          · rw [u5]
            rcases a1.1 with ⟨w1, w2⟩ | ⟨w1, w2, w3⟩
            · omega
            · omega
          · rw [u4 i]
            by_cases c5 : i = Fm 5 e
            · rw [if_pos c5, c5]
              rcases a1.1 with ⟨w1, w2⟩ | ⟨w1, w2, w3⟩
              · omega
              · rw [← k3]; exact w3
            · rw [if_neg c5, a1.2 i a (by omega)]
              exact k4 i a (by omega)
          · rw [ak]
            unfold kf_ky
            rw [u5, z0, hR.2.2.1, hR.2.2.2.1]
            exact kf_kI_congr _ _ _ (by omega) (fun i a b => s0 i a b)
        · obtain ⟨k1, k2, k3, k4, k5⟩ := hQ e h8 h9'
          obtain ⟨x1, x2⟩ := oth _ (show (e + 1).toNat ≠ (p0 + 1).toNat by omega)
          have u5 : va_up (va_up Fm 4 (upI (Fm 4) (20 * p0 + Fm 5 p0) p1)) 5 (upI (Fm 5) p0 (Fm 5 p0 + 1)) 5 e = Fm 5 e := upI_ne _ _ c
          have u4 : ∀ i, 0 ≤ i → i < Fm 5 e → va_up (va_up Fm 4 (upI (Fm 4) (20 * p0 + Fm 5 p0) p1)) 5 (upI (Fm 5) p0 (Fm 5 p0 + 1)) 4 (20 * e + i) = Fm 4 (20 * e + i) := fun i a b => upI_ne _ _ (by omega)
          generalize va_up (va_up Fm 4 (upI (Fm 4) (20 * p0 + Fm 5 p0) p1)) 5 (upI (Fm 5) p0 (Fm 5 p0 + 1)) = Gm at u4 u5 ⊢
          refine ⟨fun i a b => ?_, fun i a b => ?_, ?_, fun i a b => ?_, ?_⟩
          · rw [x2, u4 i a (by omega)]; exact k1 i a (by omega)
          · rw [u4 i a (by omega)]; exact k2 i a (by omega)
          · rw [x1, u5]; exact k3
          · rw [x2, u4 i a (by omega)]; exact k4 i a (by omega)
          · rw [x1, x2, k5]
            unfold kf_ky
            rw [u5]
            exact kf_kI_congr _ _ _ (by omega) (fun i a b => (u4 i a b).symm)
    · have hq0 : ¬ q = 0 := by rcases c3 with ⟨c1, -⟩ | ⟨c1, -⟩ | ⟨c1, -⟩ <;> omega
      rcases hm with ⟨m1, rfl, rfl, m2⟩ | ⟨m1, rfl, rfl, m2, m3⟩ | ⟨m1, rfl, rfl, m2, m3, m4⟩ | ⟨rfl, rfl, m1, m2, m3, m4⟩
      · exact hQ.keep he (by decide) (by decide) rfl rfl rfl rfl rfl
      · exact hQ.keep he (by decide) (by decide) rfl rfl rfl rfl rfl
      · exact hQ.keep he (by decide) (by decide) rfl rfl rfl rfl rfl
      · exact absurd (show (0 : Int) = q from g1).symm hq0
  exact ⟨g1, g2, g3, g4, hk9⟩
theorem lawK.keep' (h : lawK Ez EF I Fm) (he : ∀ e : Int, 0 ≤ e → e < I 1 → Ez' ((e + 1).toNat) 1 = Ez ((e + 1).toNat) 1 ∧ Ez' ((e + 1).toNat) 2 = Ez ((e + 1).toNat) 2 ∧ EF' ((e + 1).toNat) 0 = EF ((e + 1).toNat) 0 ∧ EF' ((e + 1).toNat) 1 = EF ((e + 1).toNat) 1 ∧ EF' ((e + 1).toNat) 2 = EF ((e + 1).toNat) 2) (b1 : J 1 = I 1) (b14 : J 14 = I 14) (b15 : J 15 = I 15) (f4 : Gm 4 = Fm 4) (f5 : Gm 5 = Fm 5) : lawK Ez' EF' J Gm := by
  intro e h8 h9
  rw [b1] at h9
  obtain ⟨a, b, c, d, g⟩ := he e h8 h9
  exact (h e h8 h9).keep a b c d g f4 f5 b14 b15
theorem sk_rule {p0 p1 : Int} (hI : mIk k I Fm) (hk : k < 64) (hR : lawR z Ez EF I Fm) (hQ : lawK Ez EF I Fm) (hp1 : p1 = 0 ∨ p1 = 1) (hc : N' = N ∧ ((q = 0 ∧ xFr [13, 14, 15, 16] [] z F z' F' ∧ eFr [2] [2] En Ez EF En' Ez' EF' ∧ ∃ v : Int, fo' 0 = Int32.toInt64 (iz v) ∧ (((p0 = 0 ∧ v = z 13 ∧ z' 13 = p1 ∧ z' 14 = z 14) ∨ (p0 = 1 ∧ v = z 14 ∧ z' 14 = p1 ∧ z' 13 = z 13)) ∧ ((z' 13 = z 13 ∧ z' 14 = z 14 ∧ ∀ j, Ez' j = Ez j ∧ EF' j = EF j) ∨ (∀ j : Nat, 1 ≤ j → (j : Int) ≤ z 12 → kf_ls (EF' j 2) 0 (Ez' j 2).toNat = kf_kI (EF j 0) (Ez j 0) (z' 13) (z' 14) 0 0 0)))) ∨ ((xFr [] [] z F z' F' ∧ eFr [] [] En Ez EF En' Ez' EF') ∧ ((q = 1 ∧ (¬ p0 = 0 ∧ ¬ p0 = 1)))))) (hm : (rr = 0 ∧ Gm = Fm ∧ J = va_up I 0 1 ∧ ¬ p0 = 0 ∧ ¬ p0 = 1) ∨ (Gm = Fm ∧ p0 = 0 ∧ rr = I 14 ∧ J = va_up (va_up (va_up (va_up I 0 0) 14 p1) 15 (I 15)) 16 0) ∨ (Gm = Fm ∧ p0 = 1 ∧ rr = I 15 ∧ J = va_up (va_up (va_up (va_up I 0 0) 14 (I 14)) 15 p1) 16 0)) : J 0 = q ∧ (q = 0 → fo' 0 = Int32.toInt64 (iz rr)) ∧ lawR z' Ez' EF' J Gm ∧ mIk (k + 1) J Gm ∧ lawK Ez' EF' J Gm := by
  have hw : N' = N ∧ ((q = 0 ∧ xFr [13, 14, 15, 16] [] z F z' F' ∧ eFr [2] [2] En Ez EF En' Ez' EF' ∧ ∃ v : Int, fo' 0 = Int32.toInt64 (iz v) ∧ ((p0 = 0 ∧ v = z 13 ∧ z' 13 = p1 ∧ z' 14 = z 14) ∨ (p0 = 1 ∧ v = z 14 ∧ z' 14 = p1 ∧ z' 13 = z 13))) ∨ ((xFr [] [] z F z' F' ∧ eFr [] [] En Ez EF En' Ez' EF') ∧ ((q = 1 ∧ (¬ p0 = 0 ∧ ¬ p0 = 1))))) := by
    obtain ⟨hN, hc⟩ := hc
    rcases hc with ⟨c1, hx, he, v, c2, c3, c4⟩ | c3
    · exact ⟨hN, Or.inl ⟨c1, hx, he, v, c2, c3⟩⟩
    · exact ⟨hN, Or.inr c3⟩
  obtain ⟨g1, g2, g3, g4⟩ := st_rule hI hk hR hp1 hw hm
  have hk9 : lawK Ez' EF' J Gm := by
    have a13 := hR.2.2.1
    have a14 := hR.2.2.2.1
    have a12 := hR.2.1
    obtain ⟨hN, hc⟩ := hc
    rcases hc with ⟨c1, hx, he, v, c2, cp, cr⟩ | ⟨⟨hx, he⟩, c3⟩
    · rcases hm with ⟨m1, rfl, rfl, m2, m3⟩ | ⟨rfl, m1, m2, rfl⟩ | ⟨rfl, m1, m2, rfl⟩
      · exact absurd (show (1 : Int) = q from g1) (by omega)
      · rcases cr with ⟨r1, r2, r3⟩ | cr
        · exact hQ.keep' (fun e h8 h9 => by obtain ⟨y1, y2⟩ := r3 ((e + 1).toNat); exact ⟨by rw [y1], by rw [y1], by rw [y2], by rw [y2], by rw [y2]⟩) rfl (show p1 = I 14 by omega) (show I 15 = I 15 by omega) rfl rfl
        · intro e h8 h9
          have h9' : e < I 1 := h9
          have hn5 := hI.1.hn e
          have hr5 := (hR.2.2.2.2 e h8 h9').2.1
          obtain ⟨k1, k2, k3, k4, k5⟩ := hQ e h8 h9'
          refine ⟨fun i a b => by rw [(he.2 _ 0 (by decide)).2]; exact k1 i a b, k2, by rw [he.1 _ 1 (by decide)]; exact k3, fun i a b => by rw [(he.2 _ 1 (by decide)).2]; exact k4 i a b, ?_⟩
          rw [cr _ (by omega) (by omega), hr5]
          show kf_kI _ _ _ _ 0 0 0 = kf_kI (kf_sg Gm e) (Gm 5 e) (p1) (I 15) 0 0 0
          rw [show z' 13 = p1 by omega, show z' 14 = I 15 by omega]
          exact kf_kI_congr _ _ _ (by omega) (fun i a b => k1 i a b)
      · rcases cr with ⟨r1, r2, r3⟩ | cr
        · exact hQ.keep' (fun e h8 h9 => by obtain ⟨y1, y2⟩ := r3 ((e + 1).toNat); exact ⟨by rw [y1], by rw [y1], by rw [y2], by rw [y2], by rw [y2]⟩) rfl (show I 14 = I 14 by omega) (show p1 = I 15 by omega) rfl rfl
        · intro e h8 h9
          have h9' : e < I 1 := h9
          have hn5 := hI.1.hn e
          have hr5 := (hR.2.2.2.2 e h8 h9').2.1
          obtain ⟨k1, k2, k3, k4, k5⟩ := hQ e h8 h9'
          refine ⟨fun i a b => by rw [(he.2 _ 0 (by decide)).2]; exact k1 i a b, k2, by rw [he.1 _ 1 (by decide)]; exact k3, fun i a b => by rw [(he.2 _ 1 (by decide)).2]; exact k4 i a b, ?_⟩
          rw [cr _ (by omega) (by omega), hr5]
          show kf_kI _ _ _ _ 0 0 0 = kf_kI (kf_sg Gm e) (Gm 5 e) (I 14) (p1) 0 0 0
          rw [show z' 13 = I 14 by omega, show z' 14 = p1 by omega]
          exact kf_kI_congr _ _ _ (by omega) (fun i a b => k1 i a b)
    · have hq0 : ¬ q = 0 := by obtain ⟨c1, -⟩ := c3; omega
      rcases hm with ⟨m1, rfl, rfl, m2, m3⟩ | ⟨rfl, m1, m2, rfl⟩ | ⟨rfl, m1, m2, rfl⟩
      · exact hQ.keep he (by decide) (by decide) rfl rfl rfl rfl rfl
      · exact absurd (show (0 : Int) = q from g1).symm hq0
      · exact absurd (show (0 : Int) = q from g1).symm hq0
  exact ⟨g1, g2, g3, g4, hk9⟩
theorem kE_rks {ez : Nat → Int} {ef : Nat → Int → Int} {e : Int} (h : kE ez ef I Fm e) (h5 : 0 ≤ Fm 5 e) : kf_ls (ef 1) 0 (ez 1).toNat = kf_rks Fm e := by
  obtain ⟨k1, k2, k3, k4, k5⟩ := h
  unfold kf_rks
  rw [k3]
  exact kf_ls_congr _ _ (fun j a b => k4 j a (by omega))
theorem sk_compare {p0 p1 : Int} (hI : mIk k I Fm) (hk : k < 64) (hR : lawR z Ez EF I Fm) (hQ : lawK Ez EF I Fm) (hc : N' = N ∧ ((q = 0 ∧ xFr [] [] z F z' F' ∧ eFr [] [] En Ez EF En' Ez' EF' ∧ ∃ v : Int, fo' 0 = Int32.toInt64 (iz v) ∧ (((0 ≤ p0 ∧ p0 < z 12) ∧ (0 ≤ p1 ∧ p1 < z 12)) ∧ ((¬ kf_lx (kf_ls (EF ((p0 + 1).toNat) 2) 0 (Ez ((p0 + 1).toNat) 2).toNat) (kf_ls (EF ((p1 + 1).toNat) 2) 0 (Ez ((p1 + 1).toNat) 2).toNat) = 0 ∧ v = kf_lx (kf_ls (EF ((p0 + 1).toNat) 2) 0 (Ez ((p0 + 1).toNat) 2).toNat) (kf_ls (EF ((p1 + 1).toNat) 2) 0 (Ez ((p1 + 1).toNat) 2).toNat)) ∨ (kf_lx (kf_ls (EF ((p0 + 1).toNat) 2) 0 (Ez ((p0 + 1).toNat) 2).toNat) (kf_ls (EF ((p1 + 1).toNat) 2) 0 (Ez ((p1 + 1).toNat) 2).toNat) = 0 ∧ v = kf_lx (kf_ls (EF ((p0 + 1).toNat) 1) 0 (Ez ((p0 + 1).toNat) 1).toNat) (kf_ls (EF ((p1 + 1).toNat) 1) 0 (Ez ((p1 + 1).toNat) 1).toNat))))) ∨ ((xFr [] [] z F z' F' ∧ eFr [] [] En Ez EF En' Ez' EF') ∧ ((q = 1 ∧ (¬ ((0 ≤ p0 ∧ p0 < z 12) ∧ (0 ≤ p1 ∧ p1 < z 12)))))))) (hm : mWk I Fm J Gm ∧ ((J 0 = 1 ∧ ¬ ((0 ≤ p0 ∧ p0 < I 1) ∧ (0 ≤ p1 ∧ p1 < I 1))) ∨ (J 0 = 0 ∧ ((0 ≤ p0 ∧ p0 < I 1) ∧ (0 ≤ p1 ∧ p1 < I 1)) ∧ rr = kf_oc I Fm p0 p1))) : J 0 = q ∧ (q = 0 → fo' 0 = Int32.toInt64 (iz rr)) ∧ lawR z' Ez' EF' J Gm ∧ mIk (k + 1) J Gm ∧ lawK Ez' EF' J Gm := by
  obtain ⟨hN, hc⟩ := hc
  obtain ⟨hwk, hm⟩ := hm
  have a12 := hR.2.1
  have hlaw : lawR z' Ez' EF' J Gm ∧ mIk (k + 1) J Gm ∧ lawK Ez' EF' J Gm := by
    rcases hc with ⟨-, hx, he, -⟩ | ⟨⟨hx, he⟩, -⟩
    · have q := st_ask hI hR hx he (by decide) (by decide) (by decide) hwk
      exact ⟨q.1, q.2, hQ.ask he (by decide) (by decide) hwk⟩
    · have q := st_ask hI hR hx he (by decide) (by decide) (by decide) hwk
      exact ⟨q.1, q.2, hQ.ask he (by decide) (by decide) hwk⟩
  rcases hc with ⟨c1, hx, he, v, c2, c3, c4⟩ | ⟨⟨hx, he⟩, c1, c3⟩
  · rcases hm with ⟨m1, m2⟩ | ⟨m1, m2, m3⟩
    · exact absurd (show (0 ≤ p0 ∧ p0 < I 1) ∧ (0 ≤ p1 ∧ p1 < I 1) by omega) m2
    · subst c1
      refine ⟨m1, fun _ => ?_, hlaw.1, hlaw.2.1, hlaw.2.2⟩
      have hn0 := hI.1.hn p0
      have hn1 := hI.1.hn p1
      have q0 := hQ p0 m2.1.1 m2.1.2
      have q1 := hQ p1 m2.2.1 m2.2.2
      rw [q0.2.2.2.2, q1.2.2.2.2, kE_rks q0 hn0.1, kE_rks q1 hn1.1] at c4
      rw [c2, m3]
      have hv : v = kf_oc I Fm p0 p1 := by
        unfold kf_oc
        rcases c4 with ⟨w1, w2⟩ | ⟨w1, w2⟩
        · rw [if_neg w1]; exact w2
        · rw [if_pos w1]; exact w2
      rw [hv]
  · rcases hm with ⟨m1, m2⟩ | ⟨m1, m2, m3⟩
    · subst c1
      exact ⟨m1, fun h => absurd h (by decide), hlaw.1, hlaw.2.1, hlaw.2.2⟩
    · exact absurd (show (0 ≤ p0 ∧ p0 < z 12) ∧ (0 ≤ p1 ∧ p1 < z 12) by omega) c3
end KST
