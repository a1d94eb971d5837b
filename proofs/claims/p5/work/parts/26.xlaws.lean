/-! class and reference, call by call -/
def lawE (ez : Nat → Int) (ef : Nat → Int → Int) (Fm : Nat → Int → Int) (e : Int) : Prop := ez 7 = Fm 2 e ∧ ez 0 = Fm 5 e ∧ ez 4 = Fm 10 e + (if 0 < Fm 11 e then 1 else 0) ∧ ((Fm 11 e = 0 ∧ ez 9 < 0) ∨ (0 < Fm 11 e ∧ 0 ≤ ez 9 ∧ ez 9 < ez 4 ∧ ef 4 (ez 9) = 100000 + Fm 11 e))
def lawR (z : Nat → Int) (Ez : Nat → Nat → Int) (EF : Nat → Nat → Int → Int) (I : Nat → Int) (Fm : Nat → Int → Int) : Prop := z 3 = I 37 ∧ z 12 = I 1 ∧ z 13 = I 14 ∧ z 14 = I 15 ∧ ∀ e, 0 ≤ e → e < I 1 → lawE (Ez ((e + 1).toNat)) (EF ((e + 1).toNat)) Fm e
theorem lawE.keep {ez ez' : Nat → Int} {ef ef' Fm Gm : Nat → Int → Int} {e : Int} (h : lawE ez ef Fm e) (a7 : ez' 7 = ez 7) (a0 : ez' 0 = ez 0) (a4 : ez' 4 = ez 4) (a9 : ez' 9 = ez 9) (af : ef' 4 = ef 4) (b2 : Gm 2 e = Fm 2 e) (b5 : Gm 5 e = Fm 5 e) (b10 : Gm 10 e = Fm 10 e) (b11 : Gm 11 e = Fm 11 e) : lawE ez' ef' Gm e := by
  unfold lawE at h ⊢
  rw [a7, a0, a4, a9, af, b2, b5, b10, b11]
  exact h
section LST
variable {k : Int} {n n' : Nat → Nat} {z z' : Nat → Int} {F F' : Nat → Int → Int} {N N' : Nat} {En En' : Nat → Nat → Nat} {Ez Ez' : Nat → Nat → Int} {EF EF' : Nat → Nat → Int → Int} {fo' : Nat → Int64} {I J : Nat → Int} {Fm Gm : Nat → Int → Int} {q rr : Int}
/-- what no compared call looks at has changed -/
theorem lawR.keep {S T S2 T2 : List Nat} (h : lawR z Ez EF I Fm) (hx : xFr S T z F z' F') (he : eFr S2 T2 En Ez EF En' Ez' EF') (h1 : 3 ∉ S ∧ 12 ∉ S ∧ 13 ∉ S ∧ 14 ∉ S) (h2 : 0 ∉ S2 ∧ 4 ∉ S2 ∧ 7 ∉ S2 ∧ 9 ∉ S2) (h3 : 4 ∉ T2)
    (b37 : J 37 = I 37) (b1 : J 1 = I 1) (b14 : J 14 = I 14) (b15 : J 15 = I 15) (f2 : Gm 2 = Fm 2) (f5 : Gm 5 = Fm 5) (f10 : Gm 10 = Fm 10) (f11 : Gm 11 = Fm 11) : lawR z' Ez' EF' J Gm := by
  obtain ⟨a, b, c, d, e⟩ := h
  refine ⟨by rw [hx.1 3 h1.1, b37]; exact a, by rw [hx.1 12 h1.2.1, b1]; exact b, by rw [hx.1 13 h1.2.2.1, b14]; exact c, by rw [hx.1 14 h1.2.2.2, b15]; exact d, fun e9 h8 h9 => ?_⟩
  rw [b1] at h9
  exact (e e9 h8 h9).keep (he.1 _ 7 h2.2.2.1) (he.1 _ 0 h2.1) (he.1 _ 4 h2.2.1) (he.1 _ 9 h2.2.2.2) (he.2 _ 4 h3).2 (by rw [f2]) (by rw [f5]) (by rw [f10]) (by rw [f11])
theorem st_ask {S T S2 T2 : List Nat} (hI : mIk k I Fm) (hR : lawR z Ez EF I Fm) (hx : xFr S T z F z' F') (he : eFr S2 T2 En Ez EF En' Ez' EF') (h1 : 3 ∉ S ∧ 12 ∉ S ∧ 13 ∉ S ∧ 14 ∉ S) (h2 : 0 ∉ S2 ∧ 4 ∉ S2 ∧ 7 ∉ S2 ∧ 9 ∉ S2) (h3 : 4 ∉ T2) (hw : mWk I Fm J Gm) : lawR z' Ez' EF' J Gm ∧ mIk (k + 1) J Gm := by
  have hf := hw.2.1
  exact ⟨hR.keep hx he h1 h2 h3 (hf.1 37 (by decide)) (hf.1 1 (by decide)) (hf.1 14 (by decide)) (hf.1 15 (by decide)) (hf.2 2 (by decide)) (hf.2 5 (by decide)) (hf.2 10 (by decide)) (hf.2 11 (by decide)), hI.ask hw⟩
theorem st_style {p0 : Int} (hI : mIk k I Fm) (hk : k < 64) (hR : lawR z Ez EF I Fm) (hc : N' = N ∧ ((q = 0 ∧ xFr [3] [3] z F z' F' ∧ eFr [] [] En Ez EF En' Ez' EF' ∧ ∃ v : Int, fo' 0 = Int32.toInt64 (iz v) ∧ ((0 ≤ p0 ∧ p0 ≤ 127) ∧ ((p0 = 0 ∧ v = 0 ∧ z' 3 = 0) ∨ (0 < p0 ∧ v = z 3 + 1 ∧ z' 3 = z 3 + 1)))) ∨ ((xFr [] [] z F z' F' ∧ eFr [] [] En Ez EF En' Ez' EF') ∧ ((q = 1 ∧ (p0 < 0 ∨ 127 < p0)) ∨ (q = 2 ∧ (80 ≤ z 3)))))) (hm : (rr = 0 ∧ Gm = Fm ∧ J = va_up I 0 1 ∧ (p0 < 0 ∨ 127 < p0)) ∨ (rr = 0 ∧ Gm = Fm ∧ J = va_up (va_up I 0 0) 37 0 ∧ p0 = 0) ∨ (Gm = va_up Fm 36 (upI (Fm 36) (I 37) p0) ∧ J = va_up (va_up I 0 0) 37 (I 37 + 1) ∧ rr = I 37 + 1 ∧ 0 < p0 ∧ p0 ≤ 127)) : J 0 = q ∧ (q = 0 → fo' 0 = Int32.toInt64 (iz rr)) ∧ lawR z' Ez' EF' J Gm ∧ mIk (k + 1) J Gm := by
  obtain ⟨hN, hc⟩ := hc
  have a3 := hR.1
  have hst := hI.1.hst
  have hq2 := hI.2.1.2.1
  rcases hm with ⟨m1, rfl, rfl, m2⟩ | ⟨m1, rfl, rfl, m2⟩ | ⟨rfl, rfl, m1, m2, m3⟩
  · rcases hc with ⟨c1, hx, he, v, c2, c3, c4⟩ | ⟨⟨hx, he⟩, ⟨c1, c2⟩ | ⟨c1, c2⟩⟩
    · omega
    · subst c1
      exact ⟨rfl, fun h => absurd h (by decide), hR.keep hx he (by decide) (by decide) (by decide) rfl rfl rfl rfl rfl rfl rfl rfl, hI.thr (by omega)⟩
    · omega
  · rcases hc with ⟨c1, hx, he, v, c2, c3, c4⟩ | ⟨⟨hx, he⟩, ⟨c1, c2⟩ | ⟨c1, c2⟩⟩
    · subst c1
      rcases c4 with ⟨d1, d2, d3⟩ | ⟨d1, d2, d3⟩
      · exact ⟨rfl, fun _ => by rw [c2, d2, m1], ⟨d3, by rw [hx.1 12 (by decide)]; exact hR.2.1, by rw [hx.1 13 (by decide)]; exact hR.2.2.1, by rw [hx.1 14 (by decide)]; exact hR.2.2.2.1, fun e h8 h9 => (hR.2.2.2.2 e h8 h9).keep (he.1 _ 7 (by decide)) (he.1 _ 0 (by decide)) (he.1 _ 4 (by decide)) (he.1 _ 9 (by decide)) (he.2 _ 4 (by decide)).2 rfl rfl rfl rfl⟩, hI.styled hk (by omega)⟩
      · omega
    · omega
    · omega
  · rcases hc with ⟨c1, hx, he, v, c2, c3, c4⟩ | ⟨⟨hx, he⟩, ⟨c1, c2⟩ | ⟨c1, c2⟩⟩
    · subst c1
      rcases c4 with ⟨d1, d2, d3⟩ | ⟨d1, d2, d3⟩
      · omega
      · exact ⟨rfl, fun _ => by rw [c2, d2, m1, a3], ⟨by rw [d3, a3]; rfl, by rw [hx.1 12 (by decide)]; exact hR.2.1, by rw [hx.1 13 (by decide)]; exact hR.2.2.1, by rw [hx.1 14 (by decide)]; exact hR.2.2.2.1, fun e h8 h9 => (hR.2.2.2.2 e h8 h9).keep (he.1 _ 7 (by decide)) (he.1 _ 0 (by decide)) (he.1 _ 4 (by decide)) (he.1 _ 9 (by decide)) (he.2 _ 4 (by decide)).2 rfl rfl rfl rfl⟩, (hI.styled hk (by omega)).f36 _ (by omega)⟩
    · omega
    · omega
theorem st_rule {p0 p1 : Int} (hI : mIk k I Fm) (hk : k < 64) (hR : lawR z Ez EF I Fm) (hp1 : p1 = 0 ∨ p1 = 1) (hc : N' = N ∧ ((q = 0 ∧ xFr [13, 14, 15, 16] [] z F z' F' ∧ eFr [2] [2] En Ez EF En' Ez' EF' ∧ ∃ v : Int, fo' 0 = Int32.toInt64 (iz v) ∧ ((p0 = 0 ∧ v = z 13 ∧ z' 13 = p1 ∧ z' 14 = z 14) ∨ (p0 = 1 ∧ v = z 14 ∧ z' 14 = p1 ∧ z' 13 = z 13))) ∨ ((xFr [] [] z F z' F' ∧ eFr [] [] En Ez EF En' Ez' EF') ∧ ((q = 1 ∧ (¬ p0 = 0 ∧ ¬ p0 = 1)))))) (hm : (rr = 0 ∧ Gm = Fm ∧ J = va_up I 0 1 ∧ ¬ p0 = 0 ∧ ¬ p0 = 1) ∨ (Gm = Fm ∧ p0 = 0 ∧ rr = I 14 ∧ J = va_up (va_up (va_up (va_up I 0 0) 14 p1) 15 (I 15)) 16 0) ∨ (Gm = Fm ∧ p0 = 1 ∧ rr = I 15 ∧ J = va_up (va_up (va_up (va_up I 0 0) 14 (I 14)) 15 p1) 16 0)) : J 0 = q ∧ (q = 0 → fo' 0 = Int32.toInt64 (iz rr)) ∧ lawR z' Ez' EF' J Gm ∧ mIk (k + 1) J Gm := by
  obtain ⟨hN, hc⟩ := hc
  have a13 := hR.2.2.1
  have a14 := hR.2.2.2.1
  have hb14 := hI.2.2.2.1
  have hb15 := hI.2.2.2.2
  rcases hm with ⟨m1, rfl, rfl, m2, m3⟩ | ⟨rfl, m1, m2, rfl⟩ | ⟨rfl, m1, m2, rfl⟩
  · rcases hc with ⟨c1, hx, he, v, c2, c4⟩ | ⟨⟨hx, he⟩, ⟨c1, c2⟩⟩
    · omega
    · subst c1
      exact ⟨rfl, fun h => absurd h (by decide), hR.keep hx he (by decide) (by decide) (by decide) rfl rfl rfl rfl rfl rfl rfl rfl, hI.thr (by omega)⟩
  · rcases hc with ⟨c1, hx, he, v, c2, c4⟩ | ⟨⟨hx, he⟩, ⟨c1, c2⟩⟩
    · subst c1
      rcases c4 with ⟨d1, d2, d3, d4⟩ | ⟨d1, d2, d3, d4⟩
      · exact ⟨rfl, fun _ => by rw [c2, d2, m2, a13], ⟨by rw [hx.1 3 (by decide)]; exact hR.1, by rw [hx.1 12 (by decide)]; exact hR.2.1, d3, by rw [d4]; exact a14, fun e h8 h9 => (hR.2.2.2.2 e h8 h9).keep (he.1 _ 7 (by decide)) (he.1 _ 0 (by decide)) (he.1 _ 4 (by decide)) (he.1 _ 9 (by decide)) (he.2 _ 4 (by decide)).2 rfl rfl rfl rfl⟩, hI.rule hp1 hb15⟩
      · omega
    · omega
  · rcases hc with ⟨c1, hx, he, v, c2, c4⟩ | ⟨⟨hx, he⟩, ⟨c1, c2⟩⟩
    · subst c1
      rcases c4 with ⟨d1, d2, d3, d4⟩ | ⟨d1, d2, d3, d4⟩
      · omega
      · exact ⟨rfl, fun _ => by rw [c2, d2, m2, a14], ⟨by rw [hx.1 3 (by decide)]; exact hR.1, by rw [hx.1 12 (by decide)]; exact hR.2.1, by rw [d4]; exact a13, d3, fun e h8 h9 => (hR.2.2.2.2 e h8 h9).keep (he.1 _ 7 (by decide)) (he.1 _ 0 (by decide)) (he.1 _ 4 (by decide)) (he.1 _ 9 (by decide)) (he.2 _ 4 (by decide)).2 rfl rfl rfl rfl⟩, hI.rule hb14 hp1⟩
    · omega
theorem st_entry {p0 p1 : Int} (hI : mIk k I Fm) (hk : k < 64) (hR : lawR z Ez EF I Fm) (hN3 : (N : Int) = z 12 + 1) (hc : (q = 0 ∧ ∃ v : Int, fo' 0 = Int32.toInt64 (iz v) ∧ N' = N + 1 ∧ xFr [12, 15, 16] [] z F z' F' ∧ v = z 12 ∧ z' 12 = z 12 + 1 ∧ ((p0 = 0 ∧ p1 = -1) ∨ ((p0 = 1 ∨ p0 = 2) ∧ 0 ≤ p1 ∧ p1 < z 12 ∧ Ez ((p1 + 1).toNat) 7 = p0 - 1)) ∧ (∀ j, j < N → Ez' j = Ez j ∧ EF' j = EF j) ∧ Ez' N 7 = p0 ∧ Ez' N 0 = 0 ∧ Ez' N 4 = 0 ∧ Ez' N 9 = -1) ∨ ((N' = N ∧ xFr [] [] z F z' F' ∧ eFr [] [] En Ez EF En' Ez' EF' ∧ z' 12 = z 12) ∧ ((q = 1 ∧ (¬ p1 = -1 ∧ ¬ (0 ≤ p1 ∧ p1 < z 12))) ∨ (q = 2 ∧ ((p1 = -1 ∨ (0 ≤ p1 ∧ p1 < z 12)) ∧ ¬ ((p0 = 0 ∧ p1 = -1) ∨ ((p0 = 1 ∨ p0 = 2) ∧ 0 ≤ p1 ∧ p1 < z 12 ∧ Ez ((p1 + 1).toNat) 7 = p0 - 1))))))) (hm : (rr = 0 ∧ Gm = Fm ∧ J = va_up I 0 1 ∧ ¬ p1 = -1 ∧ (p1 < 0 ∨ I 1 ≤ p1)) ∨ (rr = 0 ∧ Gm = Fm ∧ J = va_up I 0 2 ∧ (p1 = -1 ∨ (0 ≤ p1 ∧ p1 < I 1)) ∧ ¬ ((p0 = 0 ∧ p1 = -1) ∨ ((p0 = 1 ∨ p0 = 2) ∧ 0 ≤ p1 ∧ p1 < I 1 ∧ Fm 2 p1 = p0 - 1))) ∨ (J = va_up (va_up (va_up I 0 0) 16 0) 1 (I 1 + 1) ∧ Gm = va_up (va_up Fm 2 (upI (Fm 2) (I 1) p0)) 3 (upI (Fm 3) (I 1) p1) ∧ rr = I 1 ∧ ((p0 = 0 ∧ p1 = -1) ∨ ((p0 = 1 ∨ p0 = 2) ∧ 0 ≤ p1 ∧ p1 < I 1 ∧ Fm 2 p1 = p0 - 1)))) : J 0 = q ∧ (q = 0 → fo' 0 = Int32.toInt64 (iz rr)) ∧ lawR z' Ez' EF' J Gm ∧ mIk (k + 1) J Gm := by
  have a12 := hR.2.1
  have hc1 := hI.1.hc
  have h27 : 0 ≤ p1 → p1 < I 1 → Ez ((p1 + 1).toNat) 7 = Fm 2 p1 := fun a b => (hR.2.2.2.2 p1 a b).1
  have h28 : (0 ≤ p1 ∧ p1 < I 1 ∧ Ez ((p1 + 1).toNat) 7 = Fm 2 p1) ∨ ¬ (0 ≤ p1 ∧ p1 < I 1) := by
    by_cases c : 0 ≤ p1 ∧ p1 < I 1
    · exact Or.inl ⟨c.1, c.2, h27 c.1 c.2⟩
    · exact Or.inr c
  have hf0 := hI.2.2.1
  rcases hm with ⟨m1, rfl, rfl, m2, m3⟩ | ⟨m1, rfl, rfl, m2, m3⟩ | ⟨rfl, rfl, m1, m2⟩
  · rcases hc with ⟨c1, v, c2, e1, hx, e2, e3, e4, hel, e5, e6, e7, e8⟩ | ⟨⟨hN, hx, he, hz⟩, ⟨c1, c2⟩ | ⟨c1, c2, c3⟩⟩
    · omega
    · subst c1
      exact ⟨rfl, fun h => absurd h (by decide), hR.keep hx he (by decide) (by decide) (by decide) rfl rfl rfl rfl rfl rfl rfl rfl, hI.thr (by omega)⟩
    · omega
  · rcases hc with ⟨c1, v, c2, e1, hx, e2, e3, e4, hel, e5, e6, e7, e8⟩ | ⟨⟨hN, hx, he, hz⟩, ⟨c1, c2⟩ | ⟨c1, c2, c3⟩⟩
    · omega
    · omega
    · subst c1
      exact ⟨rfl, fun h => absurd h (by decide), hR.keep hx he (by decide) (by decide) (by decide) rfl rfl rfl rfl rfl rfl rfl rfl, hI.thr (by omega)⟩
  · rcases hc with ⟨c1, v, c2, e1, hx, e2, e3, e4, hel, e5, e6, e7, e8⟩ | ⟨⟨hN, hx, he, hz⟩, ⟨c1, c2⟩ | ⟨c1, c2, c3⟩⟩
    · subst c1
      refine ⟨rfl, fun _ => by rw [c2, e2, m1, a12], ⟨by rw [hx.1 3 (by decide)]; exact hR.1, by rw [e3, a12]; rfl, by rw [hx.1 13 (by decide)]; exact hR.2.2.1, by rw [hx.1 14 (by decide)]; exact hR.2.2.2.1, fun e h8 h9 => ?_⟩, hI.entry hk m2⟩
      have h9' : e < I 1 + 1 := h9
      by_cases c : e = I 1
      · subst c
        have hj : (I 1 + 1).toNat = N := by omega
        rw [hj]
        have q := hf0 (I 1) (Int.le_refl _)
        refine ⟨?_, ?_, ?_, Or.inl ⟨q.2.2.1, by rw [e8]; omega⟩⟩
        · rw [e5]; exact (upI_self _ _ _).symm
        · rw [e6]; exact q.1.symm
        · show Ez' N 4 = Fm 10 (I 1) + (if 0 < Fm 11 (I 1) then 1 else 0)
          rw [e7, q.2.1, q.2.2.1]; rfl
      · have hj : (e + 1).toNat < N := by omega
        obtain ⟨x1, x2⟩ := hel _ hj
        exact (hR.2.2.2.2 e h8 (by omega)).keep (by rw [x1]) (by rw [x1]) (by rw [x1]) (by rw [x1]) (by rw [x2]) (upI_ne _ _ c) rfl rfl rfl
    · omega
    · omega
theorem st_sign {p0 p1 : Int} (hI : mIk k I Fm) (hk : k < 64) (hR : lawR z Ez EF I Fm) (hc : N' = N ∧ ((q = 0 ∧ xFr [15, 16] [] z F z' F' ∧ eFr [0, 1, 2] [0, 1, 2] En Ez EF En' Ez' EF' ∧ ∃ v : Int, fo' 0 = Int32.toInt64 (iz v) ∧ ((0 ≤ p0 ∧ p0 < z 12) ∧ (0 ≤ p1 ∧ p1 ≤ 255) ∧ Ez ((p0 + 1).toNat) 0 < 20 ∧ v = Ez ((p0 + 1).toNat) 0 + 1 ∧ Ez' ((p0 + 1).toNat) 0 = Ez ((p0 + 1).toNat) 0 + 1 ∧ (∀ j, j ≠ ((p0 + 1).toNat) → Ez' j = Ez j ∧ EF' j = EF j))) ∨ ((xFr [] [] z F z' F' ∧ eFr [] [] En Ez EF En' Ez' EF') ∧ ((q = 1 ∧ (¬ (0 ≤ p0 ∧ p0 < z 12))) ∨ (q = 2 ∧ ((0 ≤ p0 ∧ p0 < z 12) ∧ (p1 < 0 ∨ 255 < p1))) ∨ (q = 3 ∧ ((0 ≤ p0 ∧ p0 < z 12) ∧ (0 ≤ p1 ∧ p1 ≤ 255) ∧ 20 ≤ Ez ((p0 + 1).toNat) 0)))))) (hm : (rr = 0 ∧ Gm = Fm ∧ J = va_up I 0 1 ∧ (p0 < 0 ∨ I 1 ≤ p0)) ∨ (rr = 0 ∧ Gm = Fm ∧ J = va_up I 0 2 ∧ (0 ≤ p0 ∧ p0 < I 1) ∧ (p1 < 0 ∨ 255 < p1)) ∨ (rr = 0 ∧ Gm = Fm ∧ J = va_up I 0 3 ∧ (0 ≤ p0 ∧ p0 < I 1) ∧ (0 ≤ p1 ∧ p1 ≤ 255) ∧ Fm 5 p0 = 20) ∨ (J = va_up (va_up I 0 0) 16 0 ∧ Gm = va_up (va_up Fm 4 (upI (Fm 4) (20 * p0 + Fm 5 p0) p1)) 5 (upI (Fm 5) p0 (Fm 5 p0 + 1)) ∧ rr = Fm 5 p0 + 1 ∧ (0 ≤ p0 ∧ p0 < I 1) ∧ (0 ≤ p1 ∧ p1 ≤ 255) ∧ ¬ Fm 5 p0 = 20)) : J 0 = q ∧ (q = 0 → fo' 0 = Int32.toInt64 (iz rr)) ∧ lawR z' Ez' EF' J Gm ∧ mIk (k + 1) J Gm := by
  obtain ⟨hN, hc⟩ := hc
  have hn5 := hI.1.hn p0
  have a12 := hR.2.1
  have h28 : (0 ≤ p0 ∧ p0 < I 1 ∧ lawE (Ez ((p0 + 1).toNat)) (EF ((p0 + 1).toNat)) Fm p0) ∨ ¬ (0 ≤ p0 ∧ p0 < I 1) := by
    by_cases c : 0 ≤ p0 ∧ p0 < I 1
    · exact Or.inl ⟨c.1, c.2, hR.2.2.2.2 p0 c.1 c.2⟩
    · exact Or.inr c
  have h29 : ¬ (0 ≤ p0 ∧ p0 < I 1) ∨ (0 ≤ p0 ∧ p0 < I 1 ∧ Ez ((p0 + 1).toNat) 0 = Fm 5 p0) := by
    rcases h28 with ⟨a, b, h⟩ | h
    · exact Or.inr ⟨a, b, h.2.1⟩
    · exact Or.inl h
  rcases hm with ⟨m1, rfl, rfl, m2⟩ | ⟨m1, rfl, rfl, m2, m3⟩ | ⟨m1, rfl, rfl, m2, m3, m4⟩ | ⟨rfl, rfl, m1, m2, m3, m4⟩
  · rcases hc with ⟨c1, hx, he, v, c2, d1, d2, d3, d4, d5, oth⟩ | ⟨⟨hx, he⟩, ⟨c1, c2⟩ | ⟨c1, c2, c3⟩ | ⟨c1, c2, c3, c4⟩⟩
    · omega
    · subst c1
      exact ⟨rfl, fun h => absurd h (by decide), hR.keep hx he (by decide) (by decide) (by decide) rfl rfl rfl rfl rfl rfl rfl rfl, hI.thr (by omega)⟩
    · omega
    · omega
  · rcases hc with ⟨c1, hx, he, v, c2, d1, d2, d3, d4, d5, oth⟩ | ⟨⟨hx, he⟩, ⟨c1, c2⟩ | ⟨c1, c2, c3⟩ | ⟨c1, c2, c3, c4⟩⟩
    · omega
    · omega
    · subst c1
      exact ⟨rfl, fun h => absurd h (by decide), hR.keep hx he (by decide) (by decide) (by decide) rfl rfl rfl rfl rfl rfl rfl rfl, hI.thr (by omega)⟩
    · omega
  · rcases hc with ⟨c1, hx, he, v, c2, d1, d2, d3, d4, d5, oth⟩ | ⟨⟨hx, he⟩, ⟨c1, c2⟩ | ⟨c1, c2, c3⟩ | ⟨c1, c2, c3, c4⟩⟩
    · omega
    · omega
    · omega
    · subst c1
      exact ⟨rfl, fun h => absurd h (by decide), hR.keep hx he (by decide) (by decide) (by decide) rfl rfl rfl rfl rfl rfl rfl rfl, hI.thr (by omega)⟩
  · rcases hc with ⟨c1, hx, he, v, c2, d1, d2, d3, d4, d5, oth⟩ | ⟨⟨hx, he⟩, ⟨c1, c2⟩ | ⟨c1, c2, c3⟩ | ⟨c1, c2, c3, c4⟩⟩
    · subst c1
      have h5 : Ez ((p0 + 1).toNat) 0 = Fm 5 p0 := by omega
      refine ⟨rfl, fun _ => by rw [c2, d4, m1, h5], ⟨by rw [hx.1 3 (by decide)]; exact hR.1, by rw [hx.1 12 (by decide)]; exact hR.2.1, by rw [hx.1 13 (by decide)]; exact hR.2.2.1, by rw [hx.1 14 (by decide)]; exact hR.2.2.2.1, fun e h8 h9 => ?_⟩, hI.sign m2 m3 m4⟩
      by_cases c : e = p0
      · subst c
        obtain ⟨y1, y2, y3, y4⟩ := hR.2.2.2.2 e m2.1 m2.2
        refine ⟨by rw [he.1 _ 7 (by decide)]; exact y1, ?_, by rw [he.1 _ 4 (by decide)]; exact y3, ?_⟩
        · rw [d5, h5]; exact (upI_self _ _ _).symm
        · rw [he.1 _ 9 (by decide), he.1 _ 4 (by decide), (he.2 _ 4 (by decide)).2]; exact y4
      · obtain ⟨x1, x2⟩ := oth _ (show (e + 1).toNat ≠ (p0 + 1).toNat by omega)
        exact (hR.2.2.2.2 e h8 h9).keep (by rw [x1]) (by rw [x1]) (by rw [x1]) (by rw [x1]) (by rw [x2]) rfl (upI_ne _ _ c) rfl rfl
    · omega
    · omega
    · omega
theorem st_page {p0 p1 p2 : Int} (hI : mIk k I Fm) (hk : k < 64) (hR : lawR z Ez EF I Fm) (hkd : -2147483648 ≤ p1 ∧ p1 < 2147483648) (hc : N' = N ∧ ((q = 0 ∧ xFr [16] [] z F z' F' ∧ eFr [4, 5, 6] [4, 5, 6] En Ez EF En' Ez' EF' ∧ ∃ v : Int, fo' 0 = Int32.toInt64 (iz v) ∧ ((0 ≤ p0 ∧ p0 < z 12) ∧ (1 ≤ p2 ∧ ((p1 = 0 ∧ p2 ≤ 3999) ∨ (p1 = 1 ∧ p2 ≤ 99999) ∨ (p1 = 2 ∧ p2 ≤ 702))) ∧ Ez ((p0 + 1).toNat) 4 < 20 ∧ v = Ez ((p0 + 1).toNat) 4 + 1 ∧ Ez' ((p0 + 1).toNat) 4 = Ez ((p0 + 1).toNat) 4 + 1 ∧ (∀ i, 0 ≤ i → i < Ez ((p0 + 1).toNat) 4 → EF' ((p0 + 1).toNat) 4 i = EF ((p0 + 1).toNat) 4 i) ∧ (∀ j, j ≠ ((p0 + 1).toNat) → Ez' j = Ez j ∧ EF' j = EF j))) ∨ ((xFr [] [] z F z' F' ∧ eFr [] [] En Ez EF En' Ez' EF') ∧ ((q = 1 ∧ (¬ (0 ≤ p0 ∧ p0 < z 12))) ∨ (q = 2 ∧ ((0 ≤ p0 ∧ p0 < z 12) ∧ ¬ (1 ≤ p2 ∧ ((p1 = 0 ∧ p2 ≤ 3999) ∨ (p1 = 1 ∧ p2 ≤ 99999) ∨ (p1 = 2 ∧ p2 ≤ 702))))) ∨ (q = 3 ∧ ((0 ≤ p0 ∧ p0 < z 12) ∧ (1 ≤ p2 ∧ ((p1 = 0 ∧ p2 ≤ 3999) ∨ (p1 = 1 ∧ p2 ≤ 99999) ∨ (p1 = 2 ∧ p2 ≤ 702))) ∧ 20 ≤ Ez ((p0 + 1).toNat) 4)))))) (hm : (rr = 0 ∧ Gm = Fm ∧ J = va_up I 0 1 ∧ (p0 < 0 ∨ I 1 ≤ p0)) ∨ (rr = 0 ∧ Gm = Fm ∧ J = va_up I 0 2 ∧ (0 ≤ p0 ∧ p0 < I 1) ∧ ¬ (1 ≤ p2 ∧ ((p1 = 0 ∧ p2 ≤ 3999) ∨ (p1 = 1 ∧ p2 ≤ 99999) ∨ (p1 = 2 ∧ p2 ≤ 702)))) ∨ (rr = 0 ∧ Gm = Fm ∧ J = va_up I 0 3 ∧ (0 ≤ p0 ∧ p0 < I 1) ∧ (1 ≤ p2 ∧ ((p1 = 0 ∧ p2 ≤ 3999) ∨ (p1 = 1 ∧ p2 ≤ 99999) ∨ (p1 = 2 ∧ p2 ≤ 702))) ∧ Fm 10 p0 + (if 0 < Fm 11 p0 then 1 else 0) = 20) ∨ (J = va_up I 0 0 ∧ Gm = va_up (va_up (va_up (va_up (va_up Fm 6 (upI (Fm 6) (20 * p0 + Fm 10 p0) p1)) 7 (upI (Fm 7) (20 * p0 + Fm 10 p0) p2)) 8 (upI (Fm 8) (20 * p0 + Fm 10 p0) p2)) 9 (upI (Fm 9) (20 * p0 + Fm 10 p0) (vp_nar .boolean (iz 0)).toInt)) 10 (upI (Fm 10) p0 (Fm 10 p0 + 1)) ∧ rr = Fm 10 p0 + (if 0 < Fm 11 p0 then 1 else 0) + 1 ∧ (0 ≤ p0 ∧ p0 < I 1) ∧ (1 ≤ p2 ∧ ((p1 = 0 ∧ p2 ≤ 3999) ∨ (p1 = 1 ∧ p2 ≤ 99999) ∨ (p1 = 2 ∧ p2 ≤ 702))) ∧ ¬ Fm 10 p0 + (if 0 < Fm 11 p0 then 1 else 0) = 20)) : J 0 = q ∧ (q = 0 → fo' 0 = Int32.toInt64 (iz rr)) ∧ lawR z' Ez' EF' J Gm ∧ mIk (k + 1) J Gm := by
  obtain ⟨hN, hc⟩ := hc
  have a12 := hR.2.1
  have h28 : (0 ≤ p0 ∧ p0 < I 1 ∧ lawE (Ez ((p0 + 1).toNat)) (EF ((p0 + 1).toNat)) Fm p0) ∨ ¬ (0 ≤ p0 ∧ p0 < I 1) := by
    by_cases c : 0 ≤ p0 ∧ p0 < I 1
    · exact Or.inl ⟨c.1, c.2, hR.2.2.2.2 p0 c.1 c.2⟩
    · exact Or.inr c
  have h29 : ¬ (0 ≤ p0 ∧ p0 < I 1) ∨ (0 ≤ p0 ∧ p0 < I 1 ∧ Ez ((p0 + 1).toNat) 4 = Fm 10 p0 + (if 0 < Fm 11 p0 then 1 else 0)) := by
    rcases h28 with ⟨a, b, h⟩ | h
    · exact Or.inr ⟨a, b, h.2.2.1⟩
    · exact Or.inl h
  have hln := hI.1.hln p0
  rcases hm with ⟨m1, rfl, rfl, m2⟩ | ⟨m1, rfl, rfl, m2, m3⟩ | ⟨m1, rfl, rfl, m2, m3, m4⟩ | ⟨rfl, rfl, m1, m2, m3, m4⟩
  · rcases hc with ⟨c1, hx, he, v, c2, d1, d2, d3, d4, d5, d6, oth⟩ | ⟨⟨hx, he⟩, ⟨c1, c2⟩ | ⟨c1, c2, c3⟩ | ⟨c1, c2, c3, c4⟩⟩
    · omega
    · subst c1
      exact ⟨rfl, fun h => absurd h (by decide), hR.keep hx he (by decide) (by decide) (by decide) rfl rfl rfl rfl rfl rfl rfl rfl, hI.thr (by omega)⟩
    · omega
    · omega
  · rcases hc with ⟨c1, hx, he, v, c2, d1, d2, d3, d4, d5, d6, oth⟩ | ⟨⟨hx, he⟩, ⟨c1, c2⟩ | ⟨c1, c2, c3⟩ | ⟨c1, c2, c3, c4⟩⟩
    · omega
    · omega
    · subst c1
      exact ⟨rfl, fun h => absurd h (by decide), hR.keep hx he (by decide) (by decide) (by decide) rfl rfl rfl rfl rfl rfl rfl rfl, hI.thr (by omega)⟩
    · omega
  · rcases hc with ⟨c1, hx, he, v, c2, d1, d2, d3, d4, d5, d6, oth⟩ | ⟨⟨hx, he⟩, ⟨c1, c2⟩ | ⟨c1, c2, c3⟩ | ⟨c1, c2, c3, c4⟩⟩
    · omega
    · omega
    · omega
    · subst c1
      exact ⟨rfl, fun h => absurd h (by decide), hR.keep hx he (by decide) (by decide) (by decide) rfl rfl rfl rfl rfl rfl rfl rfl, hI.thr (by omega)⟩
  · rcases hc with ⟨c1, hx, he, v, c2, d1, d2, d3, d4, d5, d6, oth⟩ | ⟨⟨hx, he⟩, ⟨c1, c2⟩ | ⟨c1, c2, c3⟩ | ⟨c1, c2, c3, c4⟩⟩
    · subst c1
      have h5 : Ez ((p0 + 1).toNat) 4 = Fm 10 p0 + (if 0 < Fm 11 p0 then 1 else 0) := by omega
      refine ⟨rfl, fun _ => by rw [c2, d4, m1, h5], ⟨by rw [hx.1 3 (by decide)]; exact hR.1, by rw [hx.1 12 (by decide)]; exact hR.2.1, by rw [hx.1 13 (by decide)]; exact hR.2.2.1, by rw [hx.1 14 (by decide)]; exact hR.2.2.2.1, fun e h8 h9 => ?_⟩, hI.keep m2 hkd (by omega) (by omega)⟩
      by_cases c : e = p0
      · subst c
        obtain ⟨y1, y2, y3, y4⟩ := hR.2.2.2.2 e m2.1 m2.2
        have hu : upI (Fm 10) e (Fm 10 e + 1) e = Fm 10 e + 1 := upI_self _ _ _
        refine ⟨by rw [he.1 _ 7 (by decide)]; exact y1, by rw [he.1 _ 0 (by decide)]; exact y2, ?_, ?_⟩
        · show Ez' ((e + 1).toNat) 4 = upI (Fm 10) e (Fm 10 e + 1) e + (if 0 < Fm 11 e then 1 else 0)
          rw [hu]
          omega
        · show (Fm 11 e = 0 ∧ Ez' ((e + 1).toNat) 9 < 0) ∨ (0 < Fm 11 e ∧ 0 ≤ Ez' ((e + 1).toNat) 9 ∧ Ez' ((e + 1).toNat) 9 < Ez' ((e + 1).toNat) 4 ∧ EF' ((e + 1).toNat) 4 (Ez' ((e + 1).toNat) 9) = 100000 + Fm 11 e)
          have e9 := he.1 ((e + 1).toNat) 9 (by decide)
          rw [e9]
          rcases y4 with y4 | ⟨y4, y5, y6, y7⟩
          · exact Or.inl y4
          · exact Or.inr ⟨y4, y5, by omega, by rw [d6 _ y5 y6]; exact y7⟩
      · obtain ⟨x1, x2⟩ := oth _ (show (e + 1).toNat ≠ (p0 + 1).toNat by omega)
        exact (hR.2.2.2.2 e h8 h9).keep (by rw [x1]) (by rw [x1]) (by rw [x1]) (by rw [x1]) (by rw [x2]) rfl rfl (upI_ne _ _ c) rfl
    · omega
    · omega
    · omega
theorem st_range {p0 p1 p2 : Int} (hI : mIk k I Fm) (hk : k < 64) (hR : lawR z Ez EF I Fm) (hp2 : p2 = 0 ∨ p2 = 1) (hc : N' = N ∧ ((q = 0 ∧ xFr [16] [] z F z' F' ∧ eFr [4, 5, 6, 9] [4, 5, 6] En Ez EF En' Ez' EF' ∧ ∃ v : Int, fo' 0 = Int32.toInt64 (iz v) ∧ ((0 ≤ p0 ∧ p0 < z 12) ∧ (1 ≤ p1 ∧ p1 ≤ 99999) ∧ ((p2 = 0 ∧ 0 ≤ Ez ((p0 + 1).toNat) 9 ∧ v = 0 ∧ Ez' ((p0 + 1).toNat) 9 = Ez ((p0 + 1).toNat) 9 ∧ Ez' ((p0 + 1).toNat) 4 = Ez ((p0 + 1).toNat) 4 ∧ EF' ((p0 + 1).toNat) 4 = EF ((p0 + 1).toNat) 4) ∨ (p2 = 0 ∧ Ez ((p0 + 1).toNat) 9 < 0 ∧ Ez ((p0 + 1).toNat) 4 < 20 ∧ v = 1 ∧ Ez' ((p0 + 1).toNat) 9 = Ez ((p0 + 1).toNat) 4 ∧ Ez' ((p0 + 1).toNat) 4 = Ez ((p0 + 1).toNat) 4 + 1 ∧ EF' ((p0 + 1).toNat) 4 (Ez ((p0 + 1).toNat) 4) = 100000 + p1) ∨ (¬ p2 = 0 ∧ v = 0 ∧ Ez' ((p0 + 1).toNat) 9 = Ez ((p0 + 1).toNat) 9 ∧ Ez' ((p0 + 1).toNat) 4 = Ez ((p0 + 1).toNat) 4 ∧ EF' ((p0 + 1).toNat) 4 = EF ((p0 + 1).toNat) 4 ∧ (0 ≤ Ez ((p0 + 1).toNat) 9 → Ez ((p0 + 1).toNat) 9 < Ez ((p0 + 1).toNat) 4 → 100000 + p1 < EF ((p0 + 1).toNat) 4 (Ez ((p0 + 1).toNat) 9))) ∨ (¬ p2 = 0 ∧ v = 1 ∧ 0 ≤ Ez ((p0 + 1).toNat) 9 ∧ (Ez ((p0 + 1).toNat) 9 < Ez ((p0 + 1).toNat) 4 → EF ((p0 + 1).toNat) 4 (Ez ((p0 + 1).toNat) 9) ≤ 100000 + p1) ∧ Ez' ((p0 + 1).toNat) 9 = -1 ∧ Ez' ((p0 + 1).toNat) 4 = Ez ((p0 + 1).toNat) 4 ∧ EF' ((p0 + 1).toNat) 4 = EF ((p0 + 1).toNat) 4)) ∧ (∀ j, j ≠ ((p0 + 1).toNat) → Ez' j = Ez j ∧ EF' j = EF j))) ∨ ((xFr [] [] z F z' F' ∧ eFr [] [] En Ez EF En' Ez' EF') ∧ ((q = 1 ∧ (¬ (0 ≤ p0 ∧ p0 < z 12))) ∨ (q = 2 ∧ ((0 ≤ p0 ∧ p0 < z 12) ∧ ¬ (1 ≤ p1 ∧ p1 ≤ 99999))) ∨ (q = 3 ∧ ((0 ≤ p0 ∧ p0 < z 12) ∧ (1 ≤ p1 ∧ p1 ≤ 99999) ∧ p2 = 0 ∧ Ez ((p0 + 1).toNat) 9 < 0 ∧ 20 ≤ Ez ((p0 + 1).toNat) 4)))))) (hm : (rr = 0 ∧ Gm = Fm ∧ J = va_up I 0 1 ∧ (p0 < 0 ∨ I 1 ≤ p0)) ∨ (rr = 0 ∧ Gm = Fm ∧ J = va_up I 0 2 ∧ (0 ≤ p0 ∧ p0 < I 1) ∧ (p1 < 1 ∨ 99999 < p1)) ∨ (rr = 0 ∧ Gm = Fm ∧ J = va_up I 0 3 ∧ (0 ≤ p0 ∧ p0 < I 1) ∧ (1 ≤ p1 ∧ p1 ≤ 99999) ∧ p2 = 0 ∧ Fm 11 p0 = 0 ∧ Fm 10 p0 = 20) ∨ (rr = 1 ∧ J = va_up I 0 0 ∧ Gm = va_up Fm 11 (upI (Fm 11) p0 p1) ∧ (0 ≤ p0 ∧ p0 < I 1) ∧ (1 ≤ p1 ∧ p1 ≤ 99999) ∧ p2 = 0 ∧ Fm 11 p0 = 0 ∧ ¬ Fm 10 p0 = 20) ∨ (rr = 0 ∧ J = va_up I 0 0 ∧ Gm = Fm ∧ (0 ≤ p0 ∧ p0 < I 1) ∧ (1 ≤ p1 ∧ p1 ≤ 99999) ∧ ((p2 = 0 ∧ ¬ Fm 11 p0 = 0) ∨ (¬ p2 = 0 ∧ (Fm 11 p0 = 0 ∨ p1 < Fm 11 p0)))) ∨ (rr = 1 ∧ J = va_up I 0 0 ∧ Gm = va_up (va_up (va_up (va_up (va_up (va_up Fm 6 (upI (Fm 6) (20 * p0 + Fm 10 p0) 1)) 7 (upI (Fm 7) (20 * p0 + Fm 10 p0) (Fm 11 p0))) 8 (upI (Fm 8) (20 * p0 + Fm 10 p0) p1)) 9 (upI (Fm 9) (20 * p0 + Fm 10 p0) (vp_nar .boolean (iz 1)).toInt)) 10 (upI (Fm 10) p0 (Fm 10 p0 + 1))) 11 (upI (Fm 11) p0 0) ∧ (0 ≤ p0 ∧ p0 < I 1) ∧ (1 ≤ p1 ∧ p1 ≤ 99999) ∧ ¬ p2 = 0 ∧ ¬ Fm 11 p0 = 0 ∧ Fm 11 p0 ≤ p1)) : J 0 = q ∧ (q = 0 → fo' 0 = Int32.toInt64 (iz rr)) ∧ lawR z' Ez' EF' J Gm ∧ mIk (k + 1) J Gm := by
  obtain ⟨hN, hc⟩ := hc
  have a12 := hR.2.1
  have h28 : (0 ≤ p0 ∧ p0 < I 1 ∧ lawE (Ez ((p0 + 1).toNat)) (EF ((p0 + 1).toNat)) Fm p0) ∨ ¬ (0 ≤ p0 ∧ p0 < I 1) := by
    by_cases c : 0 ≤ p0 ∧ p0 < I 1
    · exact Or.inl ⟨c.1, c.2, hR.2.2.2.2 p0 c.1 c.2⟩
    · exact Or.inr c
  have h29 : ¬ (0 ≤ p0 ∧ p0 < I 1) ∨ (0 ≤ p0 ∧ p0 < I 1 ∧ Ez ((p0 + 1).toNat) 4 = Fm 10 p0 + (if 0 < Fm 11 p0 then 1 else 0) ∧ ((Fm 11 p0 = 0 ∧ Ez ((p0 + 1).toNat) 9 < 0) ∨ (0 < Fm 11 p0 ∧ 0 ≤ Ez ((p0 + 1).toNat) 9))) := by
    rcases h28 with ⟨a, b, h⟩ | h
    · refine Or.inr ⟨a, b, h.2.2.1, ?_⟩
      rcases h.2.2.2 with y | y
      · exact Or.inl y
      · exact Or.inr ⟨y.1, y.2.1⟩
    · exact Or.inl h
  have h30 : (0 ≤ p0 ∧ p0 < I 1) → (Fm 11 p0 = 0 ∧ Ez ((p0 + 1).toNat) 9 < 0) ∨ (0 < Fm 11 p0 ∧ 0 ≤ Ez ((p0 + 1).toNat) 9 ∧ Ez ((p0 + 1).toNat) 9 < Ez ((p0 + 1).toNat) 4 ∧ EF ((p0 + 1).toNat) 4 (Ez ((p0 + 1).toNat) 9) = 100000 + Fm 11 p0) := fun a => (hR.2.2.2.2 p0 a.1 a.2).2.2.2
  have hln := hI.1.hln p0
  have hln0 : ∀ e, (0 ≤ e ∧ e < I 1) → 0 ≤ Fm 10 e := fun e _ => (hI.1.hln e).1
  have hif : Fm 11 p0 = 0 → (if 0 < Fm 11 p0 then (1 : Int) else 0) = 0 := fun h => if_neg (by omega)
  have hif1 : 0 < Fm 11 p0 → (if 0 < Fm 11 p0 then (1 : Int) else 0) = 1 := fun h => if_pos h
  have hif2 : (Fm 11 p0 = 0 ∧ (if 0 < Fm 11 p0 then (1 : Int) else 0) = 0) ∨ (¬ Fm 11 p0 = 0 ∧ (if 0 < Fm 11 p0 then (1 : Int) else 0) = 1) := by
    by_cases c : Fm 11 p0 = 0
    · exact Or.inl ⟨c, hif c⟩
    · exact Or.inr ⟨c, hif1 (by have := hln.2.1; omega)⟩
  rcases hm with ⟨m1, rfl, rfl, m2⟩ | ⟨m1, rfl, rfl, m2, m3⟩ | ⟨m1, rfl, rfl, m2, m3, m4, m5, m6⟩ | ⟨m1, rfl, rfl, m2, m3, m4, m5, m6⟩ | ⟨m1, rfl, rfl, m2, m3, m4⟩ | ⟨m1, rfl, rfl, m2, m3, m4, m5, m6⟩
  · rcases hc with ⟨c1, hx, he, v, c2, d1, d2, d3, oth⟩ | ⟨⟨hx, he⟩, ⟨c1, c2⟩ | ⟨c1, c2, c3⟩ | ⟨c1, c2, c3, c4, c5, c6⟩⟩
    · exfalso; rcases d3 with ⟨g1, g2, g3, g4, g5, g6⟩ | ⟨g1, g2, g3, g4, g5, g6, g7⟩ | ⟨g1, g2, g3, g4, g5, g6⟩ | ⟨g1, g2, g3, g4, g5, g6, g7⟩ <;> omega
    · subst c1
      exact ⟨rfl, fun h => absurd h (by decide), hR.keep hx he (by decide) (by decide) (by decide) rfl rfl rfl rfl rfl rfl rfl rfl, hI.thr (by omega)⟩
    · omega
    · omega
  · rcases hc with ⟨c1, hx, he, v, c2, d1, d2, d3, oth⟩ | ⟨⟨hx, he⟩, ⟨c1, c2⟩ | ⟨c1, c2, c3⟩ | ⟨c1, c2, c3, c4, c5, c6⟩⟩
    · exfalso; rcases d3 with ⟨g1, g2, g3, g4, g5, g6⟩ | ⟨g1, g2, g3, g4, g5, g6, g7⟩ | ⟨g1, g2, g3, g4, g5, g6⟩ | ⟨g1, g2, g3, g4, g5, g6, g7⟩ <;> omega
    · omega
    · subst c1
      exact ⟨rfl, fun h => absurd h (by decide), hR.keep hx he (by decide) (by decide) (by decide) rfl rfl rfl rfl rfl rfl rfl rfl, hI.thr (by omega)⟩
    · omega
  · rcases hc with ⟨c1, hx, he, v, c2, d1, d2, d3, oth⟩ | ⟨⟨hx, he⟩, ⟨c1, c2⟩ | ⟨c1, c2, c3⟩ | ⟨c1, c2, c3, c4, c5, c6⟩⟩
    · exfalso; rcases d3 with ⟨g1, g2, g3, g4, g5, g6⟩ | ⟨g1, g2, g3, g4, g5, g6, g7⟩ | ⟨g1, g2, g3, g4, g5, g6⟩ | ⟨g1, g2, g3, g4, g5, g6, g7⟩ <;> omega
    · omega
    · omega
    · subst c1
      exact ⟨rfl, fun h => absurd h (by decide), hR.keep hx he (by decide) (by decide) (by decide) rfl rfl rfl rfl rfl rfl rfl rfl, hI.thr (by omega)⟩
  · rcases hc with ⟨c1, hx, he, v, c2, d1, d2, d3, oth⟩ | ⟨⟨hx, he⟩, ⟨c1, c2⟩ | ⟨c1, c2, c3⟩ | ⟨c1, c2, c3, c4, c5, c6⟩⟩
    · subst c1
      rcases d3 with ⟨g1, g2, g3, g4, g5, g6⟩ | ⟨g1, g2, g3, g4, g5, g6, g7⟩ | ⟨g1, g2, g3, g4, g5, g6⟩ | ⟨g1, g2, g3, g4, g5, g6, g7⟩
      · exfalso; omega
      · refine ⟨rfl, fun _ => by rw [c2, g4, m1], ⟨by rw [hx.1 3 (by decide)]; exact hR.1, by rw [hx.1 12 (by decide)]; exact hR.2.1, by rw [hx.1 13 (by decide)]; exact hR.2.2.1, by rw [hx.1 14 (by decide)]; exact hR.2.2.2.1, fun e h8 h9 => ?_⟩, (hI.thr (by omega)).opn m2 (by omega) (by rw [if_pos (by omega)]; omega)⟩
        by_cases c : e = p0
        · subst c
          obtain ⟨y1, y2, y3, y4⟩ := hR.2.2.2.2 e m2.1 m2.2
          have hu : upI (Fm 11) e p1 e = p1 := upI_self _ _ _
          have y3' : Ez ((e + 1).toNat) 4 = Fm 10 e := by rw [y3, if_neg (by omega)]; omega
          refine ⟨by rw [he.1 _ 7 (by decide)]; exact y1, by rw [he.1 _ 0 (by decide)]; exact y2, ?_, Or.inr ?_⟩
          · show Ez' ((e + 1).toNat) 4 = Fm 10 e + (if 0 < upI (Fm 11) e p1 e then 1 else 0)
            rw [hu, if_pos (by omega)]
            omega
          · show 0 < upI (Fm 11) e p1 e ∧ 0 ≤ Ez' ((e + 1).toNat) 9 ∧ Ez' ((e + 1).toNat) 9 < Ez' ((e + 1).toNat) 4 ∧ EF' ((e + 1).toNat) 4 (Ez' ((e + 1).toNat) 9) = 100000 + upI (Fm 11) e p1 e
            have hz0 := hln0 e m2
            rw [hu, g5]
            exact ⟨by omega, by omega, by omega, g7⟩
        · obtain ⟨x1, x2⟩ := oth _ (show (e + 1).toNat ≠ (p0 + 1).toNat by omega)
          exact (hR.2.2.2.2 e h8 h9).keep (by rw [x1]) (by rw [x1]) (by rw [x1]) (by rw [x1]) (by rw [x2]) rfl rfl rfl (upI_ne _ _ c)
      · exfalso; omega
      · exfalso; omega
    · omega
    · omega
    · omega
  · rcases hc with ⟨c1, hx, he, v, c2, d1, d2, d3, oth⟩ | ⟨⟨hx, he⟩, ⟨c1, c2⟩ | ⟨c1, c2, c3⟩ | ⟨c1, c2, c3, c4, c5, c6⟩⟩
    · subst c1
      have hop := h30 m2
      rcases d3 with ⟨g1, g2, g3, g4, g5, g6⟩ | ⟨g1, g2, g3, g4, g5, g6, g7⟩ | ⟨g1, g2, g3, g4, g5, g6⟩ | ⟨g1, g2, g3, g4, g5, g6, g7⟩
      · exact ⟨rfl, fun _ => by rw [c2, g3, m1], ⟨by rw [hx.1 3 (by decide)]; exact hR.1, by rw [hx.1 12 (by decide)]; exact hR.2.1, by rw [hx.1 13 (by decide)]; exact hR.2.2.1, by rw [hx.1 14 (by decide)]; exact hR.2.2.2.1, fun e h8 h9 => by
        by_cases c : e = p0
        · subst c
          exact (hR.2.2.2.2 e h8 h9).keep (he.1 _ 7 (by decide)) (he.1 _ 0 (by decide)) (by omega) (by omega) (by assumption) rfl rfl rfl rfl
        · obtain ⟨x1, x2⟩ := oth _ (show (e + 1).toNat ≠ (p0 + 1).toNat by omega)
          exact (hR.2.2.2.2 e h8 h9).keep (by rw [x1]) (by rw [x1]) (by rw [x1]) (by rw [x1]) (by rw [x2]) rfl rfl rfl rfl⟩, hI.thr (by omega)⟩
      · exfalso; omega
      · exact ⟨rfl, fun _ => by rw [c2, g2, m1], ⟨by rw [hx.1 3 (by decide)]; exact hR.1, by rw [hx.1 12 (by decide)]; exact hR.2.1, by rw [hx.1 13 (by decide)]; exact hR.2.2.1, by rw [hx.1 14 (by decide)]; exact hR.2.2.2.1, fun e h8 h9 => by
        by_cases c : e = p0
        · subst c
          exact (hR.2.2.2.2 e h8 h9).keep (he.1 _ 7 (by decide)) (he.1 _ 0 (by decide)) (by omega) (by omega) (by assumption) rfl rfl rfl rfl
        · obtain ⟨x1, x2⟩ := oth _ (show (e + 1).toNat ≠ (p0 + 1).toNat by omega)
          exact (hR.2.2.2.2 e h8 h9).keep (by rw [x1]) (by rw [x1]) (by rw [x1]) (by rw [x1]) (by rw [x2]) rfl rfl rfl rfl⟩, hI.thr (by omega)⟩
      · exfalso
        rcases hop with ⟨y1, y2⟩ | ⟨y1, y2, y3, y4⟩
        · omega
        · have := g4 y3
          omega
    · omega
    · omega
    · omega
  · rcases hc with ⟨c1, hx, he, v, c2, d1, d2, d3, oth⟩ | ⟨⟨hx, he⟩, ⟨c1, c2⟩ | ⟨c1, c2, c3⟩ | ⟨c1, c2, c3, c4, c5, c6⟩⟩
    · subst c1
      have hop := h30 m2
      rcases d3 with ⟨g1, g2, g3, g4, g5, g6⟩ | ⟨g1, g2, g3, g4, g5, g6, g7⟩ | ⟨g1, g2, g3, g4, g5, g6⟩ | ⟨g1, g2, g3, g4, g5, g6, g7⟩
      · exfalso; omega
      · exfalso; omega
      · exfalso
        rcases hop with ⟨y1, y2⟩ | ⟨y1, y2, y3, y4⟩
        · omega
        · have := g6 y2 y3
          omega
      · have hp5 : 0 < Fm 11 p0 := by omega
        have hle : Fm 10 p0 + 1 + 0 ≤ 20 := by
          have := hln.2.2.2
          rw [if_pos hp5] at this
          omega
        have hk1 : mIk (k + 1) (va_up I 0 0) (va_up Fm 11 (upI (Fm 11) p0 0)) := (hI.thr (by omega)).opn m2 (by omega) (by rw [if_neg (by omega)]; omega)
        refine ⟨rfl, fun _ => by rw [c2, g2, m1], ⟨by rw [hx.1 3 (by decide)]; exact hR.1, by rw [hx.1 12 (by decide)]; exact hR.2.1, by rw [hx.1 13 (by decide)]; exact hR.2.2.1, by rw [hx.1 14 (by decide)]; exact hR.2.2.2.1, fun e h8 h9 => ?_⟩, ?_⟩
        · by_cases c : e = p0
          · subst c
            obtain ⟨y1, y2, y3, y4⟩ := hR.2.2.2.2 e m2.1 m2.2
            have hu : upI (Fm 11) e 0 e = 0 := upI_self _ _ _
            have hv : upI (Fm 10) e (Fm 10 e + 1) e = Fm 10 e + 1 := upI_self _ _ _
            rw [if_pos hp5] at y3
            refine ⟨by rw [he.1 _ 7 (by decide)]; exact y1, by rw [he.1 _ 0 (by decide)]; exact y2, ?_, Or.inl ⟨hu, by rw [g5]; omega⟩⟩
            show Ez' ((e + 1).toNat) 4 = upI (Fm 10) e (Fm 10 e + 1) e + (if 0 < upI (Fm 11) e 0 e then 1 else 0)
            rw [hu, hv, if_neg (by omega)]
            omega
          · obtain ⟨x1, x2⟩ := oth _ (show (e + 1).toNat ≠ (p0 + 1).toNat by omega)
            exact (hR.2.2.2.2 e h8 h9).keep (by rw [x1]) (by rw [x1]) (by rw [x1]) (by rw [x1]) (by rw [x2]) rfl rfl (upI_ne _ _ c) (upI_ne _ _ c)
        · exact hI.keepEnd m2 m3 m6 hp5 hle
    · omega
    · omega
    · omega
theorem st_see {p0 p1 : Int} (hI : mIk k I Fm) (hk : k < 64) (hR : lawR z Ez EF I Fm) (hc : N' = N ∧ ((q = 0 ∧ xFr [] [] z F z' F' ∧ eFr [3] [3] En Ez EF En' Ez' EF' ∧ ∃ v : Int, fo' 0 = Int32.toInt64 (iz v) ∧ (v = 0 ∨ v = 1)) ∨ ((xFr [] [] z F z' F' ∧ eFr [] [] En Ez EF En' Ez' EF') ∧ ((q = 1 ∧ (True)) ∨ (q = 2 ∧ (True)))))) (hm : (rr = 0 ∧ Gm = Fm ∧ J = va_up I 0 1) ∨ (rr = 0 ∧ Gm = Fm ∧ J = va_up I 0 2) ∨ (rr = 0 ∧ Gm = Fm ∧ J = va_up I 0 0) ∨ (rr = 1 ∧ J = va_up I 0 0 ∧ Gm = va_up (va_up Fm 12 (upI (Fm 12) (5 * p0 + Fm 13 p0) p1)) 13 (upI (Fm 13) p0 (Fm 13 p0 + 1)) ∧ (0 ≤ p0 ∧ p0 < I 1) ∧ (0 ≤ p1 ∧ p1 < I 1) ∧ Fm 13 p0 < 5)) : lawR z' Ez' EF' J Gm ∧ mIk (k + 1) J Gm := by
  obtain ⟨hN, hc⟩ := hc
  rcases hc with ⟨c1, hx, he, v, c2, c3⟩ | ⟨⟨hx, he⟩, c3⟩
  · rcases hm with ⟨m1, rfl, rfl⟩ | ⟨m1, rfl, rfl⟩ | ⟨m1, rfl, rfl⟩ | ⟨m1, rfl, rfl, m2, m3, m4⟩
    · exact ⟨hR.keep hx he (by decide) (by decide) (by decide) rfl rfl rfl rfl rfl rfl rfl rfl, hI.thr (by omega)⟩
    · exact ⟨hR.keep hx he (by decide) (by decide) (by decide) rfl rfl rfl rfl rfl rfl rfl rfl, hI.thr (by omega)⟩
    · exact ⟨hR.keep hx he (by decide) (by decide) (by decide) rfl rfl rfl rfl rfl rfl rfl rfl, hI.thr (by omega)⟩
    · exact ⟨hR.keep hx he (by decide) (by decide) (by decide) rfl rfl rfl rfl rfl rfl rfl rfl, hI.see hk m2 m3 m4⟩
  · rcases hm with ⟨m1, rfl, rfl⟩ | ⟨m1, rfl, rfl⟩ | ⟨m1, rfl, rfl⟩ | ⟨m1, rfl, rfl, m2, m3, m4⟩
    · exact ⟨hR.keep hx he (by decide) (by decide) (by decide) rfl rfl rfl rfl rfl rfl rfl rfl, hI.thr (by omega)⟩
    · exact ⟨hR.keep hx he (by decide) (by decide) (by decide) rfl rfl rfl rfl rfl rfl rfl rfl, hI.thr (by omega)⟩
    · exact ⟨hR.keep hx he (by decide) (by decide) (by decide) rfl rfl rfl rfl rfl rfl rfl rfl, hI.thr (by omega)⟩
    · exact ⟨hR.keep hx he (by decide) (by decide) (by decide) rfl rfl rfl rfl rfl rfl rfl rfl, hI.see hk m2 m3 m4⟩
end LST
