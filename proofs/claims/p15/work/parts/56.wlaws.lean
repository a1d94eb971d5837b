/-! class and reference, call by call: what is to be seen, and what is told -/
def lawS (Ez : Nat → Nat → Int) (EF : Nat → Nat → Int → Int) (I : Nat → Int) (Fm : Nat → Int → Int) : Prop := ∀ e, 0 ≤ e → e < I 1 → Ez ((e + 1).toNat) 3 = Fm 13 e ∧ ∀ k, 0 ≤ k → k < Fm 13 e → EF ((e + 1).toNat) 3 k = Fm 12 (5 * e + k)
def lawR4 (z : Nat → Int) (F : Nat → Int → Int) (Ez : Nat → Nat → Int) (EF : Nat → Nat → Int → Int) (I : Nat → Int) (Fm : Nat → Int → Int) : Prop := lawR z Ez EF I Fm ∧ lawK Ez EF I Fm ∧ lawW z F Ez I Fm ∧ lawS Ez EF I Fm
section WST
variable {k : Int} {n n' : Nat → Nat} {z z' : Nat → Int} {F F' : Nat → Int → Int} {N N' : Nat} {En En' : Nat → Nat → Nat} {Ez Ez' : Nat → Nat → Int} {EF EF' : Nat → Nat → Int → Int} {fo' : Nat → Int64} {I J : Nat → Int} {Fm Gm : Nat → Int → Int} {q rr : Int}
theorem lawS.keep {S2 T2 : List Nat} (h : lawS Ez EF I Fm) (he : eFr S2 T2 En Ez EF En' Ez' EF') (h2 : 3 ∉ S2) (h3 : 3 ∉ T2) (b1 : J 1 = I 1) (f12 : Gm 12 = Fm 12) (f13 : Gm 13 = Fm 13) : lawS Ez' EF' J Gm := by
  intro e h8 h9
  rw [b1] at h9
  rw [he.1 _ 3 h2, (he.2 _ 3 h3).2, f12, f13]
  exact h e h8 h9
theorem lawS.ask {S2 T2 : List Nat} (h : lawS Ez EF I Fm) (he : eFr S2 T2 En Ez EF En' Ez' EF') (h2 : 3 ∉ S2) (h3 : 3 ∉ T2) (hw : mWk I Fm J Gm) : lawS Ez' EF' J Gm :=
  h.keep he h2 h3 (hw.2.1.1 1 (by decide)) (hw.2.1.2 12 (by decide)) (hw.2.1.2 13 (by decide))
theorem lawS.H (h : lawS Ez EF I Fm) (hR : lawR z Ez EF I Fm) (hI : mIk k I Fm) : wr_H (z 12) Ez EF (wr_pg Fm) (Fm 13) (Fm 11) (wr_se Fm) := by
  intro e a b
  rw [hR.2.1] at b ⊢
  obtain ⟨s1, s2⟩ := h e a b
  obtain ⟨q1, q2, q3, q4⟩ := hR.2.2.2.2 e a b
  have q5 := hI.1.hln e
  refine ⟨⟨q3, s1⟩, ?_, fun k c d => ⟨s2 k c d, hI.1.hse e k a b c d⟩⟩
  rcases q4 with ⟨p1, p2⟩ | ⟨p1, p2, p3, p4⟩
  · exact Or.inl ⟨p2, p1⟩
  · exact Or.inr ⟨p2, p3, ⟨p1, q5.2.2.1⟩, p4⟩
theorem ss_style {p0 : Int} (hV : lawS Ez EF I Fm) (hc : N' = N ∧ ((q = 0 ∧ xFr [3] [3] z F z' F' ∧ eFr [] [] En Ez EF En' Ez' EF' ∧ ∃ v : Int, fo' 0 = Int32.toInt64 (iz v) ∧ ((0 ≤ p0 ∧ p0 ≤ 127) ∧ ((p0 = 0 ∧ v = 0 ∧ z' 3 = 0) ∨ (0 < p0 ∧ v = z 3 + 1 ∧ z' 3 = z 3 + 1)))) ∨ ((xFr [] [] z F z' F' ∧ eFr [] [] En Ez EF En' Ez' EF') ∧ ((q = 1 ∧ (p0 < 0 ∨ 127 < p0)) ∨ (q = 2 ∧ (80 ≤ z 3)))))) (hm : (rr = 0 ∧ Gm = Fm ∧ J = va_up I 0 1 ∧ (p0 < 0 ∨ 127 < p0)) ∨ (rr = 0 ∧ Gm = Fm ∧ J = va_up (va_up I 0 0) 37 0 ∧ p0 = 0) ∨ (Gm = va_up Fm 36 (upI (Fm 36) (I 37) p0) ∧ J = va_up (va_up I 0 0) 37 (I 37 + 1) ∧ rr = I 37 + 1 ∧ 0 < p0 ∧ p0 ≤ 127)) : lawS Ez' EF' J Gm := by
  obtain ⟨hN, hc⟩ := hc
  have hfr : ∃ S2 T2 : List Nat, eFr S2 T2 En Ez EF En' Ez' EF' ∧ 3 ∉ S2 ∧ 3 ∉ T2 := by
    rcases hc with ⟨-, -, h2, -⟩ | ⟨⟨-, h2⟩, -⟩
    · exact ⟨_, _, h2, by decide, by decide⟩
    · exact ⟨_, _, h2, by decide, by decide⟩
  obtain ⟨S2, T2, he, d1, d2⟩ := hfr
  rcases hm with ⟨m1, rfl, rfl, m2⟩ | ⟨m1, rfl, rfl, m2⟩ | ⟨rfl, rfl, m1, m2, m3⟩ <;> exact hV.keep he d1 d2 rfl rfl rfl
theorem ss_page {p0 p1 p2 : Int} (hV : lawS Ez EF I Fm) (hc : N' = N ∧ ((q = 0 ∧ xFr [16] [] z F z' F' ∧ eFr [4, 5, 6] [4, 5, 6] En Ez EF En' Ez' EF' ∧ ∃ v : Int, fo' 0 = Int32.toInt64 (iz v) ∧ ((0 ≤ p0 ∧ p0 < z 12) ∧ (1 ≤ p2 ∧ ((p1 = 0 ∧ p2 ≤ 3999) ∨ (p1 = 1 ∧ p2 ≤ 99999) ∨ (p1 = 2 ∧ p2 ≤ 702))) ∧ Ez ((p0 + 1).toNat) 4 < 20 ∧ v = Ez ((p0 + 1).toNat) 4 + 1 ∧ Ez' ((p0 + 1).toNat) 4 = Ez ((p0 + 1).toNat) 4 + 1 ∧ (∀ i, 0 ≤ i → i < Ez ((p0 + 1).toNat) 4 → EF' ((p0 + 1).toNat) 4 i = EF ((p0 + 1).toNat) 4 i) ∧ (∀ j, j ≠ ((p0 + 1).toNat) → Ez' j = Ez j ∧ EF' j = EF j))) ∨ ((xFr [] [] z F z' F' ∧ eFr [] [] En Ez EF En' Ez' EF') ∧ ((q = 1 ∧ (¬ (0 ≤ p0 ∧ p0 < z 12))) ∨ (q = 2 ∧ ((0 ≤ p0 ∧ p0 < z 12) ∧ ¬ (1 ≤ p2 ∧ ((p1 = 0 ∧ p2 ≤ 3999) ∨ (p1 = 1 ∧ p2 ≤ 99999) ∨ (p1 = 2 ∧ p2 ≤ 702))))) ∨ (q = 3 ∧ ((0 ≤ p0 ∧ p0 < z 12) ∧ (1 ≤ p2 ∧ ((p1 = 0 ∧ p2 ≤ 3999) ∨ (p1 = 1 ∧ p2 ≤ 99999) ∨ (p1 = 2 ∧ p2 ≤ 702))) ∧ 20 ≤ Ez ((p0 + 1).toNat) 4)))))) (hm : (rr = 0 ∧ Gm = Fm ∧ J = va_up I 0 1 ∧ (p0 < 0 ∨ I 1 ≤ p0)) ∨ (rr = 0 ∧ Gm = Fm ∧ J = va_up I 0 2 ∧ (0 ≤ p0 ∧ p0 < I 1) ∧ ¬ (1 ≤ p2 ∧ ((p1 = 0 ∧ p2 ≤ 3999) ∨ (p1 = 1 ∧ p2 ≤ 99999) ∨ (p1 = 2 ∧ p2 ≤ 702)))) ∨ (rr = 0 ∧ Gm = Fm ∧ J = va_up I 0 3 ∧ (0 ≤ p0 ∧ p0 < I 1) ∧ (1 ≤ p2 ∧ ((p1 = 0 ∧ p2 ≤ 3999) ∨ (p1 = 1 ∧ p2 ≤ 99999) ∨ (p1 = 2 ∧ p2 ≤ 702))) ∧ Fm 10 p0 + (if 0 < Fm 11 p0 then 1 else 0) = 20) ∨ (J = va_up I 0 0 ∧ Gm = va_up (va_up (va_up (va_up (va_up Fm 6 (upI (Fm 6) (20 * p0 + Fm 10 p0) p1)) 7 (upI (Fm 7) (20 * p0 + Fm 10 p0) p2)) 8 (upI (Fm 8) (20 * p0 + Fm 10 p0) p2)) 9 (upI (Fm 9) (20 * p0 + Fm 10 p0) (vp_nar .boolean (iz 0)).toInt)) 10 (upI (Fm 10) p0 (Fm 10 p0 + 1)) ∧ rr = Fm 10 p0 + (if 0 < Fm 11 p0 then 1 else 0) + 1 ∧ (0 ≤ p0 ∧ p0 < I 1) ∧ (1 ≤ p2 ∧ ((p1 = 0 ∧ p2 ≤ 3999) ∨ (p1 = 1 ∧ p2 ≤ 99999) ∨ (p1 = 2 ∧ p2 ≤ 702))) ∧ ¬ Fm 10 p0 + (if 0 < Fm 11 p0 then 1 else 0) = 20)) : lawS Ez' EF' J Gm := by
  obtain ⟨hN, hc⟩ := hc
  have hfr : ∃ S2 T2 : List Nat, eFr S2 T2 En Ez EF En' Ez' EF' ∧ 3 ∉ S2 ∧ 3 ∉ T2 := by
    rcases hc with ⟨-, -, h2, -⟩ | ⟨⟨-, h2⟩, -⟩
    · exact ⟨_, _, h2, by decide, by decide⟩
    · exact ⟨_, _, h2, by decide, by decide⟩
  obtain ⟨S2, T2, he, d1, d2⟩ := hfr
  rcases hm with ⟨m1, rfl, rfl, m2⟩ | ⟨m1, rfl, rfl, m2, m3⟩ | ⟨m1, rfl, rfl, m2, m3, m4⟩ | ⟨rfl, rfl, m1, m2, m3, m4⟩ <;> exact hV.keep he d1 d2 rfl rfl rfl
theorem ss_range {p0 p1 p2 : Int} (hV : lawS Ez EF I Fm) (hc : N' = N ∧ ((q = 0 ∧ xFr [16] [] z F z' F' ∧ eFr [4, 5, 6, 9] [4, 5, 6] En Ez EF En' Ez' EF' ∧ ∃ v : Int, fo' 0 = Int32.toInt64 (iz v) ∧ ((0 ≤ p0 ∧ p0 < z 12) ∧ (1 ≤ p1 ∧ p1 ≤ 99999) ∧ ((p2 = 0 ∧ 0 ≤ Ez ((p0 + 1).toNat) 9 ∧ v = 0 ∧ Ez' ((p0 + 1).toNat) 9 = Ez ((p0 + 1).toNat) 9 ∧ Ez' ((p0 + 1).toNat) 4 = Ez ((p0 + 1).toNat) 4 ∧ EF' ((p0 + 1).toNat) 4 = EF ((p0 + 1).toNat) 4) ∨ (p2 = 0 ∧ Ez ((p0 + 1).toNat) 9 < 0 ∧ Ez ((p0 + 1).toNat) 4 < 20 ∧ v = 1 ∧ Ez' ((p0 + 1).toNat) 9 = Ez ((p0 + 1).toNat) 4 ∧ Ez' ((p0 + 1).toNat) 4 = Ez ((p0 + 1).toNat) 4 + 1 ∧ EF' ((p0 + 1).toNat) 4 (Ez ((p0 + 1).toNat) 4) = 100000 + p1) ∨ (¬ p2 = 0 ∧ v = 0 ∧ Ez' ((p0 + 1).toNat) 9 = Ez ((p0 + 1).toNat) 9 ∧ Ez' ((p0 + 1).toNat) 4 = Ez ((p0 + 1).toNat) 4 ∧ EF' ((p0 + 1).toNat) 4 = EF ((p0 + 1).toNat) 4 ∧ (0 ≤ Ez ((p0 + 1).toNat) 9 → Ez ((p0 + 1).toNat) 9 < Ez ((p0 + 1).toNat) 4 → 100000 + p1 < EF ((p0 + 1).toNat) 4 (Ez ((p0 + 1).toNat) 9))) ∨ (¬ p2 = 0 ∧ v = 1 ∧ 0 ≤ Ez ((p0 + 1).toNat) 9 ∧ (Ez ((p0 + 1).toNat) 9 < Ez ((p0 + 1).toNat) 4 → EF ((p0 + 1).toNat) 4 (Ez ((p0 + 1).toNat) 9) ≤ 100000 + p1) ∧ Ez' ((p0 + 1).toNat) 9 = -1 ∧ Ez' ((p0 + 1).toNat) 4 = Ez ((p0 + 1).toNat) 4 ∧ EF' ((p0 + 1).toNat) 4 = EF ((p0 + 1).toNat) 4)) ∧ (∀ j, j ≠ ((p0 + 1).toNat) → Ez' j = Ez j ∧ EF' j = EF j))) ∨ ((xFr [] [] z F z' F' ∧ eFr [] [] En Ez EF En' Ez' EF') ∧ ((q = 1 ∧ (¬ (0 ≤ p0 ∧ p0 < z 12))) ∨ (q = 2 ∧ ((0 ≤ p0 ∧ p0 < z 12) ∧ ¬ (1 ≤ p1 ∧ p1 ≤ 99999))) ∨ (q = 3 ∧ ((0 ≤ p0 ∧ p0 < z 12) ∧ (1 ≤ p1 ∧ p1 ≤ 99999) ∧ p2 = 0 ∧ Ez ((p0 + 1).toNat) 9 < 0 ∧ 20 ≤ Ez ((p0 + 1).toNat) 4)))))) (hm : (rr = 0 ∧ Gm = Fm ∧ J = va_up I 0 1 ∧ (p0 < 0 ∨ I 1 ≤ p0)) ∨ (rr = 0 ∧ Gm = Fm ∧ J = va_up I 0 2 ∧ (0 ≤ p0 ∧ p0 < I 1) ∧ (p1 < 1 ∨ 99999 < p1)) ∨ (rr = 0 ∧ Gm = Fm ∧ J = va_up I 0 3 ∧ (0 ≤ p0 ∧ p0 < I 1) ∧ (1 ≤ p1 ∧ p1 ≤ 99999) ∧ p2 = 0 ∧ Fm 11 p0 = 0 ∧ Fm 10 p0 = 20) ∨ (rr = 1 ∧ J = va_up I 0 0 ∧ Gm = va_up Fm 11 (upI (Fm 11) p0 p1) ∧ (0 ≤ p0 ∧ p0 < I 1) ∧ (1 ≤ p1 ∧ p1 ≤ 99999) ∧ p2 = 0 ∧ Fm 11 p0 = 0 ∧ ¬ Fm 10 p0 = 20) ∨ (rr = 0 ∧ J = va_up I 0 0 ∧ Gm = Fm ∧ (0 ≤ p0 ∧ p0 < I 1) ∧ (1 ≤ p1 ∧ p1 ≤ 99999) ∧ ((p2 = 0 ∧ ¬ Fm 11 p0 = 0) ∨ (¬ p2 = 0 ∧ (Fm 11 p0 = 0 ∨ p1 < Fm 11 p0)))) ∨ (rr = 1 ∧ J = va_up I 0 0 ∧ Gm = va_up (va_up (va_up (va_up (va_up (va_up Fm 6 (upI (Fm 6) (20 * p0 + Fm 10 p0) 1)) 7 (upI (Fm 7) (20 * p0 + Fm 10 p0) (Fm 11 p0))) 8 (upI (Fm 8) (20 * p0 + Fm 10 p0) p1)) 9 (upI (Fm 9) (20 * p0 + Fm 10 p0) (vp_nar .boolean (iz 1)).toInt)) 10 (upI (Fm 10) p0 (Fm 10 p0 + 1))) 11 (upI (Fm 11) p0 0) ∧ (0 ≤ p0 ∧ p0 < I 1) ∧ (1 ≤ p1 ∧ p1 ≤ 99999) ∧ ¬ p2 = 0 ∧ ¬ Fm 11 p0 = 0 ∧ Fm 11 p0 ≤ p1)) : lawS Ez' EF' J Gm := by
  obtain ⟨hN, hc⟩ := hc
  have hfr : ∃ S2 T2 : List Nat, eFr S2 T2 En Ez EF En' Ez' EF' ∧ 3 ∉ S2 ∧ 3 ∉ T2 := by
    rcases hc with ⟨-, -, h2, -⟩ | ⟨⟨-, h2⟩, -⟩
    · exact ⟨_, _, h2, by decide, by decide⟩
    · exact ⟨_, _, h2, by decide, by decide⟩
  obtain ⟨S2, T2, he, d1, d2⟩ := hfr
  rcases hm with ⟨m1, rfl, rfl, m2⟩ | ⟨m1, rfl, rfl, m2, m3⟩ | ⟨m1, rfl, rfl, m2, m3, m4, m5, m6⟩ | ⟨m1, rfl, rfl, m2, m3, m4, m5, m6⟩ | ⟨m1, rfl, rfl, m2, m3, m4⟩ | ⟨m1, rfl, rfl, m2, m3, m4, m5, m6⟩ <;> exact hV.keep he d1 d2 rfl rfl rfl
theorem ss_sign {p0 p1 : Int} (hV : lawS Ez EF I Fm) (hc : N' = N ∧ ((q = 0 ∧ xFr [15, 16] [] z F z' F' ∧ eFr [0, 1, 2] [0, 1, 2] En Ez EF En' Ez' EF' ∧ ∃ v : Int, fo' 0 = Int32.toInt64 (iz v) ∧ ((((0 ≤ p0 ∧ p0 < z 12) ∧ (0 ≤ p1 ∧ p1 ≤ 255) ∧ Ez ((p0 + 1).toNat) 0 < 20 ∧ v = Ez ((p0 + 1).toNat) 0 + 1 ∧ Ez' ((p0 + 1).toNat) 0 = Ez ((p0 + 1).toNat) 0 + 1 ∧ (∀ j, j ≠ ((p0 + 1).toNat) → Ez' j = Ez j ∧ EF' j = EF j)) ∧ (iAdd 20 (Ez ((p0 + 1).toNat) 0) (EF ((p0 + 1).toNat) 0) (Ez' ((p0 + 1).toNat) 0) (EF' ((p0 + 1).toNat) 0) p1 ∧ iAdd 20 (Ez ((p0 + 1).toNat) 1) (EF ((p0 + 1).toNat) 1) (Ez' ((p0 + 1).toNat) 1) (EF' ((p0 + 1).toNat) 1) (kf_rk p1) ∧ kf_ls (EF' ((p0 + 1).toNat) 2) 0 (Ez' ((p0 + 1).toNat) 2).toNat = kf_kI (EF' ((p0 + 1).toNat) 0) (Ez' ((p0 + 1).toNat) 0) (z 13) (z 14) 0 0 0)) ∧ z' 15 = 0)) ∨ ((xFr [] [] z F z' F' ∧ eFr [] [] En Ez EF En' Ez' EF') ∧ ((q = 1 ∧ (¬ (0 ≤ p0 ∧ p0 < z 12))) ∨ (q = 2 ∧ ((0 ≤ p0 ∧ p0 < z 12) ∧ (p1 < 0 ∨ 255 < p1))) ∨ (q = 3 ∧ ((0 ≤ p0 ∧ p0 < z 12) ∧ (0 ≤ p1 ∧ p1 ≤ 255) ∧ 20 ≤ Ez ((p0 + 1).toNat) 0)))))) (hm : (rr = 0 ∧ Gm = Fm ∧ J = va_up I 0 1 ∧ (p0 < 0 ∨ I 1 ≤ p0)) ∨ (rr = 0 ∧ Gm = Fm ∧ J = va_up I 0 2 ∧ (0 ≤ p0 ∧ p0 < I 1) ∧ (p1 < 0 ∨ 255 < p1)) ∨ (rr = 0 ∧ Gm = Fm ∧ J = va_up I 0 3 ∧ (0 ≤ p0 ∧ p0 < I 1) ∧ (0 ≤ p1 ∧ p1 ≤ 255) ∧ Fm 5 p0 = 20) ∨ (J = va_up (va_up I 0 0) 16 0 ∧ Gm = va_up (va_up Fm 4 (upI (Fm 4) (20 * p0 + Fm 5 p0) p1)) 5 (upI (Fm 5) p0 (Fm 5 p0 + 1)) ∧ rr = Fm 5 p0 + 1 ∧ (0 ≤ p0 ∧ p0 < I 1) ∧ (0 ≤ p1 ∧ p1 ≤ 255) ∧ ¬ Fm 5 p0 = 20)) : lawS Ez' EF' J Gm := by
  obtain ⟨hN, hc⟩ := hc
  have hfr : ∃ S2 T2 : List Nat, eFr S2 T2 En Ez EF En' Ez' EF' ∧ 3 ∉ S2 ∧ 3 ∉ T2 := by
    rcases hc with ⟨-, -, h2, -⟩ | ⟨⟨-, h2⟩, -⟩
    · exact ⟨_, _, h2, by decide, by decide⟩
    · exact ⟨_, _, h2, by decide, by decide⟩
  obtain ⟨S2, T2, he, d1, d2⟩ := hfr
  rcases hm with ⟨m1, rfl, rfl, m2⟩ | ⟨m1, rfl, rfl, m2, m3⟩ | ⟨m1, rfl, rfl, m2, m3, m4⟩ | ⟨rfl, rfl, m1, m2, m3, m4⟩ <;> exact hV.keep he d1 d2 rfl rfl rfl
theorem ss_rule {p0 p1 : Int} (hV : lawS Ez EF I Fm) (hc : N' = N ∧ ((q = 0 ∧ xFr [13, 14, 15, 16] [] z F z' F' ∧ eFr [2] [2] En Ez EF En' Ez' EF' ∧ ∃ v : Int, fo' 0 = Int32.toInt64 (iz v) ∧ ((((p0 = 0 ∧ v = z 13 ∧ z' 13 = p1 ∧ z' 14 = z 14) ∨ (p0 = 1 ∧ v = z 14 ∧ z' 14 = p1 ∧ z' 13 = z 13)) ∧ ((z' 13 = z 13 ∧ z' 14 = z 14 ∧ ∀ j, Ez' j = Ez j ∧ EF' j = EF j) ∨ (∀ j : Nat, 1 ≤ j → (j : Int) ≤ z 12 → kf_ls (EF' j 2) 0 (Ez' j 2).toNat = kf_kI (EF j 0) (Ez j 0) (z' 13) (z' 14) 0 0 0))) ∧ (z' 15 = 0 ∨ ((z' 15 = z 15 ∧ z' 13 = z 13 ∧ z' 14 = z 14 ∧ z' 1 = z 1) ∧ F' 1 = F 1 ∧ ∀ j, Ez' j = Ez j)))) ∨ ((xFr [] [] z F z' F' ∧ eFr [] [] En Ez EF En' Ez' EF') ∧ ((q = 1 ∧ (¬ p0 = 0 ∧ ¬ p0 = 1)))))) (hm : (rr = 0 ∧ Gm = Fm ∧ J = va_up I 0 1 ∧ ¬ p0 = 0 ∧ ¬ p0 = 1) ∨ (Gm = Fm ∧ p0 = 0 ∧ rr = I 14 ∧ J = va_up (va_up (va_up (va_up I 0 0) 14 p1) 15 (I 15)) 16 0) ∨ (Gm = Fm ∧ p0 = 1 ∧ rr = I 15 ∧ J = va_up (va_up (va_up (va_up I 0 0) 14 (I 14)) 15 p1) 16 0)) : lawS Ez' EF' J Gm := by
  obtain ⟨hN, hc⟩ := hc
  have hfr : ∃ S2 T2 : List Nat, eFr S2 T2 En Ez EF En' Ez' EF' ∧ 3 ∉ S2 ∧ 3 ∉ T2 := by
    rcases hc with ⟨-, -, h2, -⟩ | ⟨⟨-, h2⟩, -⟩
    · exact ⟨_, _, h2, by decide, by decide⟩
    · exact ⟨_, _, h2, by decide, by decide⟩
  obtain ⟨S2, T2, he, d1, d2⟩ := hfr
  rcases hm with ⟨m1, rfl, rfl, m2, m3⟩ | ⟨rfl, m1, m2, rfl⟩ | ⟨rfl, m1, m2, rfl⟩ <;> exact hV.keep he d1 d2 rfl rfl rfl
theorem ss_entry {p0 p1 : Int} (hI : mIk k I Fm) (hR : lawR z Ez EF I Fm) (hN3 : (N : Int) = z 12 + 1) (g1 : J 0 = q) (hV : lawS Ez EF I Fm) (hc : (q = 0 ∧ ∃ v : Int, fo' 0 = Int32.toInt64 (iz v) ∧ N' = N + 1 ∧ xFr [12, 15, 16] [] z F z' F' ∧ v = z 12 ∧ z' 12 = z 12 + 1 ∧ ((p0 = 0 ∧ p1 = -1) ∨ ((p0 = 1 ∨ p0 = 2) ∧ 0 ≤ p1 ∧ p1 < z 12 ∧ Ez ((p1 + 1).toNat) 7 = p0 - 1)) ∧ (∀ j, j < N → Ez' j = Ez j ∧ EF' j = EF j) ∧ Ez' N 7 = p0 ∧ Ez' N 0 = 0 ∧ Ez' N 4 = 0 ∧ Ez' N 9 = -1 ∧ Ez' N 1 = 0 ∧ Ez' N 2 = 0 ∧ Ez' N 3 = 0 ∧ Ez' N 8 = p1 ∧ z' 15 = 0) ∨ ((N' = N ∧ xFr [] [] z F z' F' ∧ eFr [] [] En Ez EF En' Ez' EF' ∧ z' 12 = z 12) ∧ ((q = 1 ∧ (¬ p1 = -1 ∧ ¬ (0 ≤ p1 ∧ p1 < z 12))) ∨ (q = 2 ∧ ((p1 = -1 ∨ (0 ≤ p1 ∧ p1 < z 12)) ∧ ¬ ((p0 = 0 ∧ p1 = -1) ∨ ((p0 = 1 ∨ p0 = 2) ∧ 0 ≤ p1 ∧ p1 < z 12 ∧ Ez ((p1 + 1).toNat) 7 = p0 - 1))))))) (hm : (rr = 0 ∧ Gm = Fm ∧ J = va_up I 0 1 ∧ ¬ p1 = -1 ∧ (p1 < 0 ∨ I 1 ≤ p1)) ∨ (rr = 0 ∧ Gm = Fm ∧ J = va_up I 0 2 ∧ (p1 = -1 ∨ (0 ≤ p1 ∧ p1 < I 1)) ∧ ¬ ((p0 = 0 ∧ p1 = -1) ∨ ((p0 = 1 ∨ p0 = 2) ∧ 0 ≤ p1 ∧ p1 < I 1 ∧ Fm 2 p1 = p0 - 1))) ∨ (J = va_up (va_up (va_up I 0 0) 16 0) 1 (I 1 + 1) ∧ Gm = va_up (va_up Fm 2 (upI (Fm 2) (I 1) p0)) 3 (upI (Fm 3) (I 1) p1) ∧ rr = I 1 ∧ ((p0 = 0 ∧ p1 = -1) ∨ ((p0 = 1 ∨ p0 = 2) ∧ 0 ≤ p1 ∧ p1 < I 1 ∧ Fm 2 p1 = p0 - 1)))) : lawS Ez' EF' J Gm := by
  have hz12 := hR.2.1
  have hc1 := hI.1.hc
  rcases hc with ⟨c1, v, c2, e1, hx, e2, e3, e4, hel, e5, e6, e7, e8, x1, x2, x3, x4, x5⟩ | ⟨⟨hN, hx, he, hz⟩, c3⟩
  · rcases hm with ⟨m1, rfl, rfl, m2, m3⟩ | ⟨m1, rfl, rfl, m2, m3⟩ | ⟨rfl, rfl, m1, m2⟩
    · exact absurd (show (1 : Int) = q from g1) (by omega)
    · exact absurd (show (2 : Int) = q from g1) (by omega)
    · intro e h8 h9
      have h9' : e < I 1 + 1 := h9
      by_cases c : e = I 1
      · subst c
        have hj : (I 1 + 1).toNat = N := by omega
        have q13 : Fm 13 (I 1) = 0 := (hI.2.2.1 (I 1) (Int.le_refl _)).2.2.2
        refine ⟨?_, fun k a b => absurd (show k < Fm 13 (I 1) from b) (by omega)⟩
        rw [hj, x3]
        exact q13.symm
      · have hj : (e + 1).toNat < N := by omega
        obtain ⟨y1, y2⟩ := hel _ hj
        rw [y1, y2]
        exact hV e h8 (by omega)
  · have hq0 : ¬ q = 0 := by rcases c3 with ⟨c1, -⟩ | ⟨c1, -⟩ <;> omega
    rcases hm with ⟨m1, rfl, rfl, m2, m3⟩ | ⟨m1, rfl, rfl, m2, m3⟩ | ⟨rfl, rfl, m1, m2⟩
    · exact hV.keep he (by decide) (by decide) rfl rfl rfl
    · exact hV.keep he (by decide) (by decide) rfl rfl rfl
    · exact absurd (show (0 : Int) = q from g1).symm hq0
theorem ss_row (hV : lawS Ez EF I Fm) (hc : N' = N ∧ ((q = 0 ∧ xFr [0, 1, 2, 4, 5, 6, 7, 8, 9, 15, 16] [0, 1, 2, 4, 5, 6, 7, 8, 9] z F z' F' ∧ eFr [10] [] En Ez EF En' Ez' EF' ∧ ∃ v : Int, fo' 0 = Int32.toInt64 (iz v) ∧ (rs_RK z' F' Ez' (Fm 2) (Fm 3) (rs_wd Fm) (kf_oc I Fm))) ∨ ((xFr [0, 1, 2, 4, 5, 6, 7, 8, 9, 15, 16] [0, 1, 2, 4, 5, 6, 7, 8, 9] z F z' F' ∧ eFr [10] [] En Ez EF En' Ez' EF' ∧ (rs_RK z' F' Ez' (Fm 2) (Fm 3) (rs_wd Fm) (kf_oc I Fm))) ∧ ((q = 1 ∧ (True)))))) (hw : mWk I Fm J Gm) : lawS Ez' EF' J Gm := by
  obtain ⟨hN, hc⟩ := hc
  rcases hc with ⟨-, -, h2, -⟩ | ⟨⟨-, h2, -⟩, -⟩
  · exact hV.ask h2 (by decide) (by decide) hw
  · exact hV.ask h2 (by decide) (by decide) hw
theorem ss_locator (hV : lawS Ez EF I Fm) (hc : N' = N ∧ ((q = 0 ∧ xFr [0, 1, 2, 4, 5, 6, 7, 8, 9, 15, 16] [0, 1, 2, 4, 5, 6, 7, 8, 9] z F z' F' ∧ eFr [10] [] En Ez EF En' Ez' EF' ∧ ∃ v : Int, fo' 0 = Int32.toInt64 (iz v) ∧ (rs_RK z' F' Ez' (Fm 2) (Fm 3) (rs_wd Fm) (kf_oc I Fm))) ∨ ((xFr [0, 1, 2, 4, 5, 6, 7, 8, 9, 15, 16] [0, 1, 2, 4, 5, 6, 7, 8, 9] z F z' F' ∧ eFr [10] [] En Ez EF En' Ez' EF' ∧ (rs_RK z' F' Ez' (Fm 2) (Fm 3) (rs_wd Fm) (kf_oc I Fm))) ∧ ((q = 1 ∧ (True)))))) (hw : mWk I Fm J Gm) : lawS Ez' EF' J Gm := by
  obtain ⟨hN, hc⟩ := hc
  rcases hc with ⟨-, -, h2, -⟩ | ⟨⟨-, h2, -⟩, -⟩
  · exact hV.ask h2 (by decide) (by decide) hw
  · exact hV.ask h2 (by decide) (by decide) hw
theorem ss_print (hV : lawS Ez EF I Fm) (hc : N' = N ∧ ((q = 0 ∧ xFr [0, 1, 2, 4, 5, 6, 7, 8, 9, 10, 11, 15, 16, 22, 23] [0, 1, 2, 4, 5, 6, 7, 8, 9, 10, 11] z F z' F' ∧ eFr [10] [] En Ez EF En' Ez' EF' ∧ ∃ v : Int, fo' 0 = Int32.toInt64 (iz v) ∧ (rs_RK z' F' Ez' (Fm 2) (Fm 3) (rs_wd Fm) (kf_oc I Fm))) ∨ ((xFr [0, 1, 2, 4, 5, 6, 7, 8, 9, 10, 11, 15, 16, 22, 23] [0, 1, 2, 4, 5, 6, 7, 8, 9, 10, 11] z F z' F' ∧ eFr [10] [] En Ez EF En' Ez' EF' ∧ (rs_RK z' F' Ez' (Fm 2) (Fm 3) (rs_wd Fm) (kf_oc I Fm))) ∧ ((q = 1 ∧ (True)))))) (hw : mWk I Fm J Gm) : lawS Ez' EF' J Gm := by
  obtain ⟨hN, hc⟩ := hc
  rcases hc with ⟨-, -, h2, -⟩ | ⟨⟨-, h2, -⟩, -⟩
  · exact hV.ask h2 (by decide) (by decide) hw
  · exact hV.ask h2 (by decide) (by decide) hw
theorem ss_compare {p0 p1 : Int} (hV : lawS Ez EF I Fm) (hc : N' = N ∧ ((q = 0 ∧ xFr [] [] z F z' F' ∧ eFr [] [] En Ez EF En' Ez' EF' ∧ ∃ v : Int, fo' 0 = Int32.toInt64 (iz v) ∧ (((0 ≤ p0 ∧ p0 < z 12) ∧ (0 ≤ p1 ∧ p1 < z 12)) ∧ ((¬ kf_lx (kf_ls (EF ((p0 + 1).toNat) 2) 0 (Ez ((p0 + 1).toNat) 2).toNat) (kf_ls (EF ((p1 + 1).toNat) 2) 0 (Ez ((p1 + 1).toNat) 2).toNat) = 0 ∧ v = kf_lx (kf_ls (EF ((p0 + 1).toNat) 2) 0 (Ez ((p0 + 1).toNat) 2).toNat) (kf_ls (EF ((p1 + 1).toNat) 2) 0 (Ez ((p1 + 1).toNat) 2).toNat)) ∨ (kf_lx (kf_ls (EF ((p0 + 1).toNat) 2) 0 (Ez ((p0 + 1).toNat) 2).toNat) (kf_ls (EF ((p1 + 1).toNat) 2) 0 (Ez ((p1 + 1).toNat) 2).toNat) = 0 ∧ v = kf_lx (kf_ls (EF ((p0 + 1).toNat) 1) 0 (Ez ((p0 + 1).toNat) 1).toNat) (kf_ls (EF ((p1 + 1).toNat) 1) 0 (Ez ((p1 + 1).toNat) 1).toNat))))) ∨ ((xFr [] [] z F z' F' ∧ eFr [] [] En Ez EF En' Ez' EF') ∧ ((q = 1 ∧ (¬ ((0 ≤ p0 ∧ p0 < z 12) ∧ (0 ≤ p1 ∧ p1 < z 12)))))))) (hw : mWk I Fm J Gm) : lawS Ez' EF' J Gm := by
  obtain ⟨hN, hc⟩ := hc
  rcases hc with ⟨-, -, h2, -⟩ | ⟨⟨-, h2⟩, -⟩
  · exact hV.ask h2 (by decide) (by decide) hw
  · exact hV.ask h2 (by decide) (by decide) hw
theorem ss_at (hV : lawS Ez EF I Fm) (hc : N' = N ∧ ((q = 0 ∧ xFr [] [] z F z' F' ∧ eFr [] [] En Ez EF En' Ez' EF' ∧ ∃ v : Int, fo' 0 = Int32.toInt64 (iz v) ∧ (True)) ∨ ((xFr [] [] z F z' F' ∧ eFr [] [] En Ez EF En' Ez' EF') ∧ ((q = 1 ∧ (True)))))) (hw : mWk I Fm J Gm) : lawS Ez' EF' J Gm := by
  obtain ⟨hN, hc⟩ := hc
  rcases hc with ⟨-, -, h2, -⟩ | ⟨⟨-, h2⟩, -⟩
  · exact hV.ask h2 (by decide) (by decide) hw
  · exact hV.ask h2 (by decide) (by decide) hw
theorem wr_adc {p0 p1 : Int} (hV : lawS Ez EF I Fm) (h12 : z 12 = I 1) : ((0 ≤ p0 ∧ p0 < z 12) ∧ (0 ≤ p1 ∧ p1 < z 12) ∧ Ez ((p0 + 1).toNat) 3 < 5 ∧ ¬ p0 = p1 ∧ ∀ i, 0 ≤ i → i < Ez ((p0 + 1).toNat) 3 → ¬ EF ((p0 + 1).toNat) 3 i = p1) ↔ wr_ad (I 1) Fm p0 p1 := by
  constructor
  · rintro ⟨a, b, c, d, e⟩
    have q := hV p0 a.1 (by omega)
    refine ⟨by omega, by omega, by omega, fun h => ?_⟩
    rcases h with h | ⟨j, a1, b1, c1⟩
    · exact d h
    · exact e j a1 (by omega) (by rw [q.2 j a1 b1]; exact c1)
  · rintro ⟨a, b, c, d⟩
    have q := hV p0 a.1 (by omega)
    refine ⟨by omega, by omega, by omega, fun h => d (Or.inl h), fun i a1 b1 c1 => d (Or.inr ⟨i, a1, by omega, ?_⟩)⟩
    rw [q.2 i a1 (by omega)] at c1
    exact c1
theorem ss_see {p0 p1 : Int} (hI : mIk k I Fm) (hk : k < 64) (hR : lawR z Ez EF I Fm) (hQ : lawK Ez EF I Fm) (hW : lawW z F Ez I Fm) (hV : lawS Ez EF I Fm) (hc : N' = N ∧ ((q = 0 ∧ xFr [] [] z F z' F' ∧ eFr [3] [3] En Ez EF En' Ez' EF' ∧ ∃ v : Int, fo' 0 = Int32.toInt64 (iz v) ∧ ((v = 0 ∧ ¬ ((0 ≤ p0 ∧ p0 < z 12) ∧ (0 ≤ p1 ∧ p1 < z 12) ∧ Ez ((p0 + 1).toNat) 3 < 5 ∧ ¬ p0 = p1 ∧ ∀ i, 0 ≤ i → i < Ez ((p0 + 1).toNat) 3 → ¬ EF ((p0 + 1).toNat) 3 i = p1) ∧ ∀ j, Ez' j = Ez j ∧ EF' j = EF j) ∨ (v = 1 ∧ ((0 ≤ p0 ∧ p0 < z 12) ∧ (0 ≤ p1 ∧ p1 < z 12) ∧ Ez ((p0 + 1).toNat) 3 < 5 ∧ ¬ p0 = p1 ∧ ∀ i, 0 ≤ i → i < Ez ((p0 + 1).toNat) 3 → ¬ EF ((p0 + 1).toNat) 3 i = p1) ∧ iAdd 5 (Ez ((p0 + 1).toNat) 3) (EF ((p0 + 1).toNat) 3) (Ez' ((p0 + 1).toNat) 3) (EF' ((p0 + 1).toNat) 3) p1 ∧ (∀ j, j ≠ ((p0 + 1).toNat) → Ez' j = Ez j ∧ EF' j = EF j)))) ∨ ((xFr [] [] z F z' F' ∧ eFr [] [] En Ez EF En' Ez' EF') ∧ ((q = 1 ∧ (¬ ((0 ≤ p0 ∧ p0 < z 12) ∧ (0 ≤ p1 ∧ p1 < z 12)))) ∨ (q = 2 ∧ ((0 ≤ p0 ∧ p0 < z 12) ∧ (0 ≤ p1 ∧ p1 < z 12) ∧ 5 ≤ Ez ((p0 + 1).toNat) 3)))))) (hm : (rr = 0 ∧ Gm = Fm ∧ J = va_up I 0 1 ∧ ¬ wr_ad (I 1) Fm p0 p1) ∨ (rr = 0 ∧ Gm = Fm ∧ J = va_up I 0 2 ∧ ¬ wr_ad (I 1) Fm p0 p1) ∨ (rr = 0 ∧ Gm = Fm ∧ J = va_up I 0 0 ∧ ¬ wr_ad (I 1) Fm p0 p1) ∨ (rr = 1 ∧ J = va_up I 0 0 ∧ Gm = va_up (va_up Fm 12 (upI (Fm 12) (5 * p0 + Fm 13 p0) p1)) 13 (upI (Fm 13) p0 (Fm 13 p0 + 1)) ∧ wr_ad (I 1) Fm p0 p1)) : lawR z' Ez' EF' J Gm ∧ mIk (k + 1) J Gm ∧ lawK Ez' EF' J Gm ∧ lawW z' F' Ez' J Gm ∧ lawS Ez' EF' J Gm := by
  have h12 := hR.2.1
  have had := wr_adc (p0 := p0) (p1 := p1) (z := z) hV h12
  have hv : N' = N ∧ ((q = 0 ∧ xFr [] [] z F z' F' ∧ eFr [3] [3] En Ez EF En' Ez' EF' ∧ ∃ v : Int, fo' 0 = Int32.toInt64 (iz v) ∧ (v = 0 ∨ v = 1)) ∨ ((xFr [] [] z F z' F' ∧ eFr [] [] En Ez EF En' Ez' EF') ∧ ((q = 1 ∧ (True)) ∨ (q = 2 ∧ (True))))) := by
    obtain ⟨hN, hc⟩ := hc
    rcases hc with ⟨c1, hx, he, v, c2, c3⟩ | ⟨c3, c4⟩
    · exact ⟨hN, Or.inl ⟨c1, hx, he, v, c2, by rcases c3 with ⟨d1, -⟩ | ⟨d1, -⟩; exact Or.inl d1; exact Or.inr d1⟩⟩
    · exact ⟨hN, Or.inr ⟨c3, by rcases c4 with ⟨d1, -⟩ | ⟨d1, -⟩; exact Or.inl ⟨d1, trivial⟩; exact Or.inr ⟨d1, trivial⟩⟩⟩
  have hmw : (rr = 0 ∧ Gm = Fm ∧ J = va_up I 0 1) ∨ (rr = 0 ∧ Gm = Fm ∧ J = va_up I 0 2) ∨ (rr = 0 ∧ Gm = Fm ∧ J = va_up I 0 0) ∨ (rr = 1 ∧ J = va_up I 0 0 ∧ Gm = va_up (va_up Fm 12 (upI (Fm 12) (5 * p0 + Fm 13 p0) p1)) 13 (upI (Fm 13) p0 (Fm 13 p0 + 1)) ∧ (0 ≤ p0 ∧ p0 < I 1) ∧ (0 ≤ p1 ∧ p1 < I 1) ∧ Fm 13 p0 < 5) := by
    rcases hm with ⟨a, b, c, -⟩ | ⟨a, b, c, -⟩ | ⟨a, b, c, -⟩ | ⟨a, b, c, d⟩
    · exact Or.inl ⟨a, b, c⟩
    · exact Or.inr (Or.inl ⟨a, b, c⟩)
    · exact Or.inr (Or.inr (Or.inl ⟨a, b, c⟩))
    · exact Or.inr (Or.inr (Or.inr ⟨a, b, c, d.1, d.2.1, d.2.2.1⟩))
  obtain ⟨g1, g2, g3, g4⟩ := sw_see hI hk hR hQ hW hv hmw
  refine ⟨g1, g2, g3, g4, ?_⟩
  obtain ⟨hN, hc⟩ := hc
  rcases hc with ⟨c1, hx, he, v, c2, ⟨d1, d2, d3⟩ | ⟨d1, d2, d3, d4⟩⟩ | ⟨⟨hx, he⟩, c3⟩
  · rw [had] at d2
    rcases hm with ⟨a, rfl, rfl, -⟩ | ⟨a, rfl, rfl, -⟩ | ⟨a, rfl, rfl, -⟩ | ⟨a, b, c, d⟩
    · intro e h8 h9; rw [(d3 _).1, (d3 _).2]; exact hV e h8 h9
    · intro e h8 h9; rw [(d3 _).1, (d3 _).2]; exact hV e h8 h9
    · intro e h8 h9; rw [(d3 _).1, (d3 _).2]; exact hV e h8 h9
    · exact absurd d d2
  · have e2 := had.mp d2
    rcases hm with ⟨a, b, c, d⟩ | ⟨a, b, c, d⟩ | ⟨a, b, c, d⟩ | ⟨a, rfl, rfl, d⟩
    · exact absurd e2 d
    · exact absurd e2 d
    · exact absurd e2 d
    · intro e h8 h9
      have h9' : e < I 1 := h9
      have hm0 := hI.1.hmy e
      have hm1 := hI.1.hmy p0
      obtain ⟨s1, s2⟩ := hV e h8 h9'
      by_cases c : e = p0
      · subst c
        have u13 : va_up (va_up Fm 12 (upI (Fm 12) (5 * e + Fm 13 e) p1)) 13 (upI (Fm 13) e (Fm 13 e + 1)) 13 e = Fm 13 e + 1 := upI_self _ _ _
        have u12 : ∀ i, va_up (va_up Fm 12 (upI (Fm 12) (5 * e + Fm 13 e) p1)) 13 (upI (Fm 13) e (Fm 13 e + 1)) 12 (5 * e + i) = if i = Fm 13 e then p1 else Fm 12 (5 * e + i) := by
          intro i
          show upI (Fm 12) (5 * e + Fm 13 e) p1 (5 * e + i) = _
          by_cases c5 : i = Fm 13 e
          · rw [if_pos c5, c5, upI_self]
          · rw [if_neg c5, upI_ne _ _ (by omega)]
        rw [u13]
        rcases d3.1 with ⟨w1, w2⟩ | ⟨w1, w2, w3⟩
        · omega
        · refine ⟨by omega, fun i a9 b9 => ?_⟩
          rw [u12 i]
          by_cases c5 : i = Fm 13 e
          · rw [if_pos c5, c5, ← s1]; exact w3
          · rw [if_neg c5, d3.2 i a9 (by omega)]; exact s2 i a9 (by omega)
      · obtain ⟨x1, x2⟩ := d4 _ (show (e + 1).toNat ≠ (p0 + 1).toNat by omega)
        have u13 : va_up (va_up Fm 12 (upI (Fm 12) (5 * p0 + Fm 13 p0) p1)) 13 (upI (Fm 13) p0 (Fm 13 p0 + 1)) 13 e = Fm 13 e := upI_ne _ _ c
        have u12 : ∀ i, 0 ≤ i → i < Fm 13 e → va_up (va_up Fm 12 (upI (Fm 12) (5 * p0 + Fm 13 p0) p1)) 13 (upI (Fm 13) p0 (Fm 13 p0 + 1)) 12 (5 * e + i) = Fm 12 (5 * e + i) := fun i a b => upI_ne _ _ (by omega)
        rw [x1, x2, u13]
        exact ⟨s1, fun i a b => by rw [u12 i a b]; exact s2 i a b⟩
  · have hno : ¬ wr_ad (I 1) Fm p0 p1 := fun h9 => by
      have h8 := had.mpr h9
      rcases c3 with ⟨-, d1⟩ | ⟨-, d1⟩
      · exact d1 ⟨h8.1, h8.2.1⟩
      · have := h8.2.2.1
        have := d1.2.2
        omega
    rcases hm with ⟨a, rfl, rfl, -⟩ | ⟨a, rfl, rfl, -⟩ | ⟨a, rfl, rfl, -⟩ | ⟨a, b, c, d⟩
    · exact hV.keep he (by decide) (by decide) rfl rfl rfl
    · exact hV.keep he (by decide) (by decide) rfl rfl rfl
    · exact hV.keep he (by decide) (by decide) rfl rfl rfl
    · exact absurd d hno
theorem ss_told {p0 p1 : Int} (hI : mIk k I Fm) (hR : lawR z Ez EF I Fm) (hQ : lawK Ez EF I Fm) (hW : lawW z F Ez I Fm) (hV : lawS Ez EF I Fm) (hc : N' = N ∧ ((q = 0 ∧ xFr [0, 1, 15, 17, 18, 19, 20, 21] [0, 1] z F z' F' ∧ eFr [10, 11, 12, 13] [] En Ez EF En' Ez' EF' ∧ ∃ v : Int, fo' 0 = Int32.toInt64 (iz v) ∧ (rs_RK z' F' Ez' (Fm 2) (Fm 3) (rs_wd Fm) (kf_oc I Fm) ∧ z' 15 = 1 ∧ ∃ nn kd av mv : Int, wr_TE p0 (wr_a (z 12) (Fm 2) (Fm 3) (rs_sE Ez') (wr_pg Fm) (Fm 13) (Fm 11) (wr_se Fm) (z 12).toNat 0) nn kd av mv ∧ ¬ (¬ p0 = -1 ∧ (¬ (0 ≤ p0 ∧ p0 < nn) ∨ p1 < 0 ∨ 2 < p1)) ∧ v = (if p0 = -1 then nn else if p1 = 0 then kd else if p1 = 1 then av else mv))) ∨ ((xFr [0, 1, 15, 17, 18, 19, 20, 21] [0, 1] z F z' F' ∧ eFr [10, 11, 12, 13] [] En Ez EF En' Ez' EF' ∧ (rs_RK z' F' Ez' (Fm 2) (Fm 3) (rs_wd Fm) (kf_oc I Fm) ∧ z' 15 = 1)) ∧ ((q = 1 ∧ (∃ s9 : Int → Int, rs_C (Fm 2) (Fm 3) (rs_wd Fm) (z 12) s9 ∧ (¬ p0 = -1 ∧ (¬ (0 ≤ p0 ∧ p0 < (((wr_a (z 12) (Fm 2) (Fm 3) s9 (wr_pg Fm) (Fm 13) (Fm 11) (wr_se Fm) (z 12).toNat 0).length : Nat) : Int)) ∨ p1 < 0 ∨ 2 < p1)))))))) (hm : mWk I Fm J Gm ∧ mKb J Gm ∧ J 16 = 1 ∧ ∃ nn kd av mv : Int, wr_T p0 (wr_R J Gm (J 1).toNat) 0 0 0 nn kd av mv ∧ ((J 0 = 1 ∧ (¬ p0 = -1 ∧ (¬ (0 ≤ p0 ∧ p0 < nn) ∨ p1 < 0 ∨ 2 < p1))) ∨ (J 0 = 0 ∧ ¬ (¬ p0 = -1 ∧ (¬ (0 ≤ p0 ∧ p0 < nn) ∨ p1 < 0 ∨ 2 < p1)) ∧ rr = (if p0 = -1 then nn else if p1 = 0 then kd else if p1 = 1 then av else mv)))) : J 0 = q ∧ (q = 0 → fo' 0 = Int32.toInt64 (iz rr)) ∧ lawR z' Ez' EF' J Gm ∧ mIk (k + 1) J Gm ∧ lawK Ez' EF' J Gm ∧ lawW z' F' Ez' J Gm ∧ lawS Ez' EF' J Gm := by
  obtain ⟨hw, hkb, m16, nn, kd, av, mv, hT, hm⟩ := hm
  have hv : N' = N ∧ ((q = 0 ∧ xFr [0, 1, 15, 17, 18, 19, 20, 21] [0, 1] z F z' F' ∧ eFr [10, 11, 12, 13] [] En Ez EF En' Ez' EF' ∧ ∃ v : Int, fo' 0 = Int32.toInt64 (iz v) ∧ (rs_RK z' F' Ez' (Fm 2) (Fm 3) (rs_wd Fm) (kf_oc I Fm))) ∨ ((xFr [0, 1, 15, 17, 18, 19, 20, 21] [0, 1] z F z' F' ∧ eFr [10, 11, 12, 13] [] En Ez EF En' Ez' EF' ∧ (rs_RK z' F' Ez' (Fm 2) (Fm 3) (rs_wd Fm) (kf_oc I Fm))) ∧ ((q = 1 ∧ (True))))) := by
    obtain ⟨hN, hc⟩ := hc
    rcases hc with ⟨c1, hx, he, v, c2, c3, -⟩ | ⟨⟨hx, he, hrk, -⟩, c4, -⟩
    · exact ⟨hN, Or.inl ⟨c1, hx, he, v, c2, c3⟩⟩
    · exact ⟨hN, Or.inr ⟨⟨hx, he, hrk⟩, c4, trivial⟩⟩
  obtain ⟨g1, g2, g3, g4⟩ := sw_told hI hR hQ hW hv ⟨hw, hkb⟩
  have hf := hw.2.1
  have h12 := hR.2.1
  have hL := hW.lv hI
  obtain ⟨k1, -, -⟩ := hkb.2 m16
  rw [hf.1 1 (by decide), hf.2 2 (by decide), hf.2 3 (by decide), rs_wd_fr (hf.2 4 (by decide)) (hf.2 5 (by decide))] at k1
  have hlr : wr_R J Gm (J 1).toNat = (wr_a (I 1) (Fm 2) (Fm 3) (Gm 17) (wr_pg Fm) (Fm 13) (Fm 11) (wr_se Fm) (I 1).toNat 0) := by
    unfold wr_R wr_pg wr_se
    rw [hf.1 1 (by decide), hf.2 2 (by decide), hf.2 3 (by decide), hf.2 10 (by decide), hf.2 11 (by decide), hf.2 12 (by decide), hf.2 13 (by decide)]
  rw [hlr] at hT
  have hc1 := hI.1.hc
  have hls : ∀ s9 : Int → Int, rs_C (Fm 2) (Fm 3) (rs_wd Fm) (I 1) s9 → (wr_a (I 1) (Fm 2) (Fm 3) s9 (wr_pg Fm) (Fm 13) (Fm 11) (wr_se Fm) (I 1).toNat 0) = (wr_a (I 1) (Fm 2) (Fm 3) (Gm 17) (wr_pg Fm) (Fm 13) (Fm 11) (wr_se Fm) (I 1).toNat 0) := fun s9 h9 =>
    wr_a_s2 (fun e a b => (rs_eq hL (rs_wd_W Fm) k1 h9 a b).symm) hL (fun e a b => ⟨(hI.1.hmy e).1, fun k c d => hI.1.hse e k a b c d⟩) _ 0 (Int.le_refl 0) (by omega)
  obtain ⟨hN, hc⟩ := hc
  rcases hc with ⟨c1, hx, he, v, c2, hrk, c15, n1, k9, a1, b1, hTE, hnb, hva⟩ | ⟨⟨hx, he, hrk⟩, c1, s9, hC, hbad⟩
  · obtain ⟨x, y, u, hT9⟩ := hTE
    have e12 : z' 12 = I 1 := by rw [hx.1 12 (by decide)]; exact h12
    have hC := (hrk c15).1
    rw [e12] at hC
    rw [h12, hls _ hC] at hT9
    obtain ⟨q1, q2⟩ := wr_T_eq hT hT9
    have hV9 := hV.ask he (by decide) (by decide) hw
    subst c1
    rcases hm with ⟨m0, hb⟩ | ⟨m0, hb, hrr⟩
    · exact absurd (q1 ▸ hb) hnb
    · refine ⟨m0, fun _ => ?_, g1, g2, g3, g4, hV9⟩
      rw [c2]
      have hvr : v = rr := by
        rw [hva, hrr]
        by_cases c : p0 = -1
        · rw [if_pos c, if_pos c, q1]
        · obtain ⟨d1, d2, d3⟩ := q2 (by omega) (by omega)
          rw [if_neg c, if_neg c, d1, d2, d3]
      rw [hvr]
  · have hV9 := hV.ask he (by decide) (by decide) hw
    rw [h12] at hC hbad
    rw [hls _ hC, ← hT.1] at hbad
    subst c1
    rcases hm with ⟨m0, hb⟩ | ⟨m0, hb, hrr⟩
    · exact ⟨m0, fun h9 => absurd h9 (by decide), g1, g2, g3, g4, hV9⟩
    · exact absurd hbad hb
end WST
