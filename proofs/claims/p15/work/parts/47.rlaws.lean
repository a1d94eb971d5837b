/-! class and reference, call by call: rows -/
theorem rs_rows_eq {lv ab s t f g : Int → Int} {Wd : Int → Int → Prop} {cm : Int → Int → Int} {n m k : Int} (hL : rs_lv lv ab n) (hW : rs_W Wd) (hc : rs_cm cm) (h0 : 0 ≤ m) (h1 : 0 ≤ k) (hC : rs_C lv ab Wd n s) (hf : rs_so (rs_bf lv ab s cm) f 0 m) (hm : ∀ x, rs_me f 0 m x ↔ (0 ≤ x ∧ x < n ∧ s x = x)) (hP : rs_P lv ab Wd n t) (hg : rs_so (rs_bf lv ab t cm) g 0 k) (hk : ∀ x, rs_me g 0 k x ↔ (0 ≤ x ∧ x < n ∧ t x = x)) : (m = k ∧ ∀ i, 0 ≤ i → i < m → f i = g i) ∧ ∀ e, 0 ≤ e → e < n → s e = t e := by
  have heq : ∀ e, 0 ≤ e → e < n → s e = t e := fun e a b => (rs_eq hL hW hP hC a b).symm
  have hsP := rs_C_P hW hC
  have hin : ∀ i, 0 ≤ i → i < m → 0 ≤ f i ∧ f i < n := fun i a b => by
    have q := (hm (f i)).mp ⟨i, a, b, rfl⟩
    exact ⟨q.1, q.2.1⟩
  by_cases hn : 0 ≤ n
  · have hf2 : rs_so (rs_bf lv ab t cm) f 0 m := fun i j a b c => by
      have qi := hin i a (by omega)
      have qj := hin j (by omega) c
      exact (rs_bf_cg hL heq (fun e a b => ⟨(hC e a b).1.1, (hC e a b).1.2, rs_P_lv hsP a b⟩) (by omega) (by omega) (Int.le_refl n)).mp (hf i j a b c)
    refine ⟨rs_one_len (rs_bf_ir hc) (fun _ _ _ => rs_bf_tr hc) h0 h1 hf2 hg (fun x => ?_), heq⟩
    rw [hm x, hk x]
    constructor
    · rintro ⟨a, b, c⟩
      exact ⟨a, b, by rw [← heq x a b]; exact c⟩
    · rintro ⟨a, b, c⟩
      exact ⟨a, b, by rw [heq x a b]; exact c⟩
  · refine ⟨rs_one_len (rs_bf_ir hc) (fun _ _ _ => rs_bf_tr hc) h0 h1 (fun i j a b c => ?_) hg (fun x => ?_), heq⟩
    · have := hin i a (by omega); omega
    · rw [hm x, hk x]
      exact ⟨fun h => absurd h (by omega), fun h => absurd h (by omega)⟩
def lawW (z : Nat → Int) (F : Nat → Int → Int) (Ez : Nat → Nat → Int) (I : Nat → Int) (Fm : Nat → Int → Int) : Prop := (∀ e, 0 ≤ e → e < I 1 → Ez ((e + 1).toNat) 8 = Fm 3 e ∧ (Fm 2 e = 0 → Fm 3 e = -1)) ∧ rs_RK z F Ez (Fm 2) (Fm 3) (rs_wd Fm) (kf_oc I Fm) ∧ mKs I Fm
def lawR3 (z : Nat → Int) (F : Nat → Int → Int) (Ez : Nat → Nat → Int) (EF : Nat → Nat → Int → Int) (I : Nat → Int) (Fm : Nat → Int → Int) : Prop := lawR z Ez EF I Fm ∧ lawK Ez EF I Fm ∧ lawW z F Ez I Fm
section RST
variable {k : Int} {n n' : Nat → Nat} {z z' : Nat → Int} {F F' : Nat → Int → Int} {N N' : Nat} {En En' : Nat → Nat → Nat} {Ez Ez' : Nat → Nat → Int} {EF EF' : Nat → Nat → Int → Int} {fo' : Nat → Int64} {I J : Nat → Int} {Fm Gm : Nat → Int → Int} {q rr : Int}
theorem lawW.lv (h : lawW z F Ez I Fm) (hI : mIk k I Fm) : rs_lv (Fm 2) (Fm 3) (I 1) := by
  intro e h1 h2
  have q := hI.1.hlv e h1 h2
  have w := (h.1 e h1 h2).2
  refine ⟨⟨q.1, q.2.1⟩, ?_⟩
  by_cases c : Fm 2 e = 0
  · exact Or.inl ⟨c, w c⟩
  · obtain ⟨q1, q2, q3⟩ := q
    exact Or.inr ⟨by omega, (q3.resolve_left c).1, (q3.resolve_left c).2.1, (q3.resolve_left c).2.2⟩
theorem lawW.kb (h : lawW z F Ez I Fm) (hQ : lawK Ez EF I Fm) (hI : mIk k I Fm) : mKb I Fm := ⟨⟨h.lv hI, hQ.sgs, hI.2.2.2.1, hI.2.2.2.2⟩, h.2.2⟩
theorem rks_wd (hQ : lawK Ez EF I Fm) (hI : mIk k I Fm) {a b : Int} (ha : 0 ≤ a ∧ a < I 1) (hb : 0 ≤ b ∧ b < I 1) : kf_rks Fm a = kf_rks Fm b ↔ rs_wd Fm a b := by
  have na := hI.1.hn a
  have nb := hI.1.hn b
  have sa := (hQ a ha.1 ha.2).2.1
  have sb := (hQ b hb.1 hb.2).2.1
  unfold kf_rks rs_wd
  constructor
  · intro h
    have hl := congrArg List.length h
    rw [kf_ls_len, kf_ls_len] at hl
    refine ⟨by omega, fun i h1 h2 => ?_⟩
    have q1 := kf_ls_at (kf_srk Fm a) (Fm 5 a).toNat 0 i.toNat (by omega)
    have q2 := kf_ls_at (kf_srk Fm b) (Fm 5 b).toNat 0 i.toNat (by omega)
    rw [h, q2] at q1
    have q3 := Option.some.inj q1
    rw [show (0 : Int) + (i.toNat : Int) = i by omega] at q3
    exact ((kf_rk_inj (sb i h1 (by omega)) (sa i h1 h2)).mp q3).symm
  · rintro ⟨h1, h2⟩
    rw [← h1]
    refine kf_ls_congr _ _ (fun j h3 h4 => ?_)
    show kf_rk (Fm 4 (20 * a + j)) = kf_rk (Fm 4 (20 * b + j))
    rw [h2 j h3 (by omega)]
theorem lawW.H (h : lawW z F Ez I Fm) (hR : lawR z Ez EF I Fm) (hQ : lawK Ez EF I Fm) (hI : mIk k I Fm) : rs_H (z 12) Ez EF (Fm 2) (Fm 3) (rs_wd Fm) (kf_oc I Fm) := by
  have a12 := hR.2.1
  rw [a12]
  refine ⟨⟨h.lv hI, rs_wd_W Fm, kf_oc_cm I Fm⟩, fun e h1 h2 => ⟨(hR.2.2.2.2 e h1 h2).1, (h.1 e h1 h2).1⟩, fun a b h1 h2 h3 h4 => ?_, fun a b h1 h2 h3 h4 => ?_⟩
  · unfold rs_K
    rw [kE_rks (hQ a h1 h2) (hI.1.hn a).1, kE_rks (hQ b h3 h4) (hI.1.hn b).1, kf_lx_0, rks_wd hQ hI ⟨h1, h2⟩ ⟨h3, h4⟩]
  · unfold rs_K kf_oc
    rw [kE_rks (hQ a h1 h2) (hI.1.hn a).1, kE_rks (hQ b h3 h4) (hI.1.hn b).1, (hQ a h1 h2).2.2.2.2, (hQ b h3 h4).2.2.2.2]
    exact ⟨fun c => by rw [if_neg c], fun c => by rw [if_pos c]⟩
/-- a call that asks -/
theorem lawW.ask {S T S2 T2 : List Nat} (h : lawW z F Ez I Fm) (he : eFr S2 T2 En Ez EF En' Ez' EF') (h8 : 8 ∉ S2) (hw : mWk I Fm J Gm) (hrk : rs_RK z' F' Ez' (Fm 2) (Fm 3) (rs_wd Fm) (kf_oc I Fm)) (hkb : mKs J Gm) : lawW z' F' Ez' J Gm := by
  have hf := hw.2.1
  refine ⟨fun e h1 h2 => ?_, ?_, hkb⟩
  · rw [hf.1 1 (by decide)] at h2
    rw [he.1 _ 8 h8, hf.2 3 (by decide), hf.2 2 (by decide)]
    exact h.1 e h1 h2
  · rw [hf.2 2 (by decide), hf.2 3 (by decide), rs_wd_fr (hf.2 4 (by decide)) (hf.2 5 (by decide)), kf_oc_fr (hf.1 14 (by decide)) (hf.1 15 (by decide)) (hf.2 4 (by decide)) (hf.2 5 (by decide))]
    exact hrk
/-- a call that touches no words, no rules, no rows -/
theorem lawW.keep {S T S2 T2 : List Nat} (h : lawW z F Ez I Fm) (hx : xFr S T z F z' F') (he : eFr S2 T2 En Ez EF En' Ez' EF') (h1 : 15 ∉ S ∧ 12 ∉ S ∧ 1 ∉ S) (h2 : 1 ∉ T) (h3 : 8 ∉ S2 ∧ 10 ∉ S2) (i1 : J 1 = I 1) (i14 : J 14 = I 14) (i15 : J 15 = I 15) (i16 : J 16 = I 16) (i19 : J 19 = I 19) (f2 : Gm 2 = Fm 2) (f3 : Gm 3 = Fm 3) (f4 : Gm 4 = Fm 4) (f5 : Gm 5 = Fm 5) (f17 : Gm 17 = Fm 17) (f18 : Gm 18 = Fm 18) : lawW z' F' Ez' J Gm := by
  refine ⟨fun e h8 h9 => ?_, ?_, fun h9 => ?_⟩
  · rw [i1] at h9
    rw [he.1 _ 8 h3.1, f3, f2]
    exact h.1 e h8 h9
  · rw [f2, f3, rs_wd_fr f4 f5, kf_oc_fr i14 i15 f4 f5]
    exact rs_RK.fr h.2.1 (hx.1 15 h1.1) (hx.1 12 h1.2.1) (hx.1 1 h1.2.2) (hx.2 1 h2) (fun j => he.1 j 10 h3.2)
  · rw [i16] at h9
    exact (h.2.2 h9).fr i1 i14 i15 i19 f2 f3 f4 f5 f17 f18
theorem sw_style {p0 : Int} (hI : mIk k I Fm) (hk : k < 64) (hR : lawR z Ez EF I Fm) (hQ : lawK Ez EF I Fm) (hW : lawW z F Ez I Fm) (hc : N' = N ∧ ((q = 0 ∧ xFr [3] [3] z F z' F' ∧ eFr [] [] En Ez EF En' Ez' EF' ∧ ∃ v : Int, fo' 0 = Int32.toInt64 (iz v) ∧ ((0 ≤ p0 ∧ p0 ≤ 127) ∧ ((p0 = 0 ∧ v = 0 ∧ z' 3 = 0) ∨ (0 < p0 ∧ v = z 3 + 1 ∧ z' 3 = z 3 + 1)))) ∨ ((xFr [] [] z F z' F' ∧ eFr [] [] En Ez EF En' Ez' EF') ∧ ((q = 1 ∧ (p0 < 0 ∨ 127 < p0)) ∨ (q = 2 ∧ (80 ≤ z 3)))))) (hm : (rr = 0 ∧ Gm = Fm ∧ J = va_up I 0 1 ∧ (p0 < 0 ∨ 127 < p0)) ∨ (rr = 0 ∧ Gm = Fm ∧ J = va_up (va_up I 0 0) 37 0 ∧ p0 = 0) ∨ (Gm = va_up Fm 36 (upI (Fm 36) (I 37) p0) ∧ J = va_up (va_up I 0 0) 37 (I 37 + 1) ∧ rr = I 37 + 1 ∧ 0 < p0 ∧ p0 ≤ 127)) : J 0 = q ∧ (q = 0 → fo' 0 = Int32.toInt64 (iz rr)) ∧ lawR z' Ez' EF' J Gm ∧ mIk (k + 1) J Gm ∧ lawK Ez' EF' J Gm ∧ lawW z' F' Ez' J Gm := by
  obtain ⟨g1, g2, g3, g4, g5⟩ := sk_style hI hk hR hQ hc hm
  have hw9 : lawW z' F' Ez' J Gm := by
    obtain ⟨hN, hc⟩ := hc
    have hfr : ∃ S T S2 T2 : List Nat, xFr S T z F z' F' ∧ eFr S2 T2 En Ez EF En' Ez' EF' ∧ (15 ∉ S ∧ 12 ∉ S ∧ 1 ∉ S) ∧ 1 ∉ T ∧ (8 ∉ S2 ∧ 10 ∉ S2) := by
      rcases hc with ⟨-, h1, h2, -⟩ | ⟨⟨h1, h2⟩, -⟩
      · exact ⟨_, _, _, _, h1, h2, by decide, by decide, by decide⟩
      · exact ⟨_, _, _, _, h1, h2, by decide, by decide, by decide⟩
    obtain ⟨S, T, S2, T2, hx, he, d1, d2, d3⟩ := hfr
    rcases hm with ⟨m1, rfl, rfl, m2⟩ | ⟨m1, rfl, rfl, m2⟩ | ⟨rfl, rfl, m1, m2, m3⟩ <;> exact hW.keep hx he d1 d2 d3 rfl rfl rfl rfl rfl rfl rfl rfl rfl rfl rfl
  exact ⟨g1, g2, g3, g4, g5, hw9⟩
theorem sw_page {p0 p1 p2 : Int} (hI : mIk k I Fm) (hk : k < 64) (hR : lawR z Ez EF I Fm) (hQ : lawK Ez EF I Fm) (hW : lawW z F Ez I Fm) (hkd : -2147483648 ≤ p1 ∧ p1 < 2147483648) (hc : N' = N ∧ ((q = 0 ∧ xFr [16] [] z F z' F' ∧ eFr [4, 5, 6] [4, 5, 6] En Ez EF En' Ez' EF' ∧ ∃ v : Int, fo' 0 = Int32.toInt64 (iz v) ∧ ((0 ≤ p0 ∧ p0 < z 12) ∧ (1 ≤ p2 ∧ ((p1 = 0 ∧ p2 ≤ 3999) ∨ (p1 = 1 ∧ p2 ≤ 99999) ∨ (p1 = 2 ∧ p2 ≤ 702))) ∧ Ez ((p0 + 1).toNat) 4 < 20 ∧ v = Ez ((p0 + 1).toNat) 4 + 1 ∧ Ez' ((p0 + 1).toNat) 4 = Ez ((p0 + 1).toNat) 4 + 1 ∧ (∀ i, 0 ≤ i → i < Ez ((p0 + 1).toNat) 4 → EF' ((p0 + 1).toNat) 4 i = EF ((p0 + 1).toNat) 4 i) ∧ (∀ j, j ≠ ((p0 + 1).toNat) → Ez' j = Ez j ∧ EF' j = EF j))) ∨ ((xFr [] [] z F z' F' ∧ eFr [] [] En Ez EF En' Ez' EF') ∧ ((q = 1 ∧ (¬ (0 ≤ p0 ∧ p0 < z 12))) ∨ (q = 2 ∧ ((0 ≤ p0 ∧ p0 < z 12) ∧ ¬ (1 ≤ p2 ∧ ((p1 = 0 ∧ p2 ≤ 3999) ∨ (p1 = 1 ∧ p2 ≤ 99999) ∨ (p1 = 2 ∧ p2 ≤ 702))))) ∨ (q = 3 ∧ ((0 ≤ p0 ∧ p0 < z 12) ∧ (1 ≤ p2 ∧ ((p1 = 0 ∧ p2 ≤ 3999) ∨ (p1 = 1 ∧ p2 ≤ 99999) ∨ (p1 = 2 ∧ p2 ≤ 702))) ∧ 20 ≤ Ez ((p0 + 1).toNat) 4)))))) (hm : (rr = 0 ∧ Gm = Fm ∧ J = va_up I 0 1 ∧ (p0 < 0 ∨ I 1 ≤ p0)) ∨ (rr = 0 ∧ Gm = Fm ∧ J = va_up I 0 2 ∧ (0 ≤ p0 ∧ p0 < I 1) ∧ ¬ (1 ≤ p2 ∧ ((p1 = 0 ∧ p2 ≤ 3999) ∨ (p1 = 1 ∧ p2 ≤ 99999) ∨ (p1 = 2 ∧ p2 ≤ 702)))) ∨ (rr = 0 ∧ Gm = Fm ∧ J = va_up I 0 3 ∧ (0 ≤ p0 ∧ p0 < I 1) ∧ (1 ≤ p2 ∧ ((p1 = 0 ∧ p2 ≤ 3999) ∨ (p1 = 1 ∧ p2 ≤ 99999) ∨ (p1 = 2 ∧ p2 ≤ 702))) ∧ Fm 10 p0 + (if 0 < Fm 11 p0 then 1 else 0) = 20) ∨ (J = va_up I 0 0 ∧ Gm = va_up (va_up (va_up (va_up (va_up Fm 6 (upI (Fm 6) (20 * p0 + Fm 10 p0) p1)) 7 (upI (Fm 7) (20 * p0 + Fm 10 p0) p2)) 8 (upI (Fm 8) (20 * p0 + Fm 10 p0) p2)) 9 (upI (Fm 9) (20 * p0 + Fm 10 p0) (vp_nar .boolean (iz 0)).toInt)) 10 (upI (Fm 10) p0 (Fm 10 p0 + 1)) ∧ rr = Fm 10 p0 + (if 0 < Fm 11 p0 then 1 else 0) + 1 ∧ (0 ≤ p0 ∧ p0 < I 1) ∧ (1 ≤ p2 ∧ ((p1 = 0 ∧ p2 ≤ 3999) ∨ (p1 = 1 ∧ p2 ≤ 99999) ∨ (p1 = 2 ∧ p2 ≤ 702))) ∧ ¬ Fm 10 p0 + (if 0 < Fm 11 p0 then 1 else 0) = 20)) : J 0 = q ∧ (q = 0 → fo' 0 = Int32.toInt64 (iz rr)) ∧ lawR z' Ez' EF' J Gm ∧ mIk (k + 1) J Gm ∧ lawK Ez' EF' J Gm ∧ lawW z' F' Ez' J Gm := by
  obtain ⟨g1, g2, g3, g4, g5⟩ := sk_page hI hk hR hQ hkd hc hm
  have hw9 : lawW z' F' Ez' J Gm := by
    obtain ⟨hN, hc⟩ := hc
    have hfr : ∃ S T S2 T2 : List Nat, xFr S T z F z' F' ∧ eFr S2 T2 En Ez EF En' Ez' EF' ∧ (15 ∉ S ∧ 12 ∉ S ∧ 1 ∉ S) ∧ 1 ∉ T ∧ (8 ∉ S2 ∧ 10 ∉ S2) := by
      rcases hc with ⟨-, h1, h2, -⟩ | ⟨⟨h1, h2⟩, -⟩
      · exact ⟨_, _, _, _, h1, h2, by decide, by decide, by decide⟩
      · exact ⟨_, _, _, _, h1, h2, by decide, by decide, by decide⟩
    obtain ⟨S, T, S2, T2, hx, he, d1, d2, d3⟩ := hfr
    rcases hm with ⟨m1, rfl, rfl, m2⟩ | ⟨m1, rfl, rfl, m2, m3⟩ | ⟨m1, rfl, rfl, m2, m3, m4⟩ | ⟨rfl, rfl, m1, m2, m3, m4⟩ <;> exact hW.keep hx he d1 d2 d3 rfl rfl rfl rfl rfl rfl rfl rfl rfl rfl rfl
  exact ⟨g1, g2, g3, g4, g5, hw9⟩
theorem sw_range {p0 p1 p2 : Int} (hI : mIk k I Fm) (hk : k < 64) (hR : lawR z Ez EF I Fm) (hQ : lawK Ez EF I Fm) (hW : lawW z F Ez I Fm) (hp2 : p2 = 0 ∨ p2 = 1) (hc : N' = N ∧ ((q = 0 ∧ xFr [16] [] z F z' F' ∧ eFr [4, 5, 6, 9] [4, 5, 6] En Ez EF En' Ez' EF' ∧ ∃ v : Int, fo' 0 = Int32.toInt64 (iz v) ∧ ((0 ≤ p0 ∧ p0 < z 12) ∧ (1 ≤ p1 ∧ p1 ≤ 99999) ∧ ((p2 = 0 ∧ 0 ≤ Ez ((p0 + 1).toNat) 9 ∧ v = 0 ∧ Ez' ((p0 + 1).toNat) 9 = Ez ((p0 + 1).toNat) 9 ∧ Ez' ((p0 + 1).toNat) 4 = Ez ((p0 + 1).toNat) 4 ∧ EF' ((p0 + 1).toNat) 4 = EF ((p0 + 1).toNat) 4) ∨ (p2 = 0 ∧ Ez ((p0 + 1).toNat) 9 < 0 ∧ Ez ((p0 + 1).toNat) 4 < 20 ∧ v = 1 ∧ Ez' ((p0 + 1).toNat) 9 = Ez ((p0 + 1).toNat) 4 ∧ Ez' ((p0 + 1).toNat) 4 = Ez ((p0 + 1).toNat) 4 + 1 ∧ EF' ((p0 + 1).toNat) 4 (Ez ((p0 + 1).toNat) 4) = 100000 + p1) ∨ (¬ p2 = 0 ∧ v = 0 ∧ Ez' ((p0 + 1).toNat) 9 = Ez ((p0 + 1).toNat) 9 ∧ Ez' ((p0 + 1).toNat) 4 = Ez ((p0 + 1).toNat) 4 ∧ EF' ((p0 + 1).toNat) 4 = EF ((p0 + 1).toNat) 4 ∧ (0 ≤ Ez ((p0 + 1).toNat) 9 → Ez ((p0 + 1).toNat) 9 < Ez ((p0 + 1).toNat) 4 → 100000 + p1 < EF ((p0 + 1).toNat) 4 (Ez ((p0 + 1).toNat) 9))) ∨ (¬ p2 = 0 ∧ v = 1 ∧ 0 ≤ Ez ((p0 + 1).toNat) 9 ∧ (Ez ((p0 + 1).toNat) 9 < Ez ((p0 + 1).toNat) 4 → EF ((p0 + 1).toNat) 4 (Ez ((p0 + 1).toNat) 9) ≤ 100000 + p1) ∧ Ez' ((p0 + 1).toNat) 9 = -1 ∧ Ez' ((p0 + 1).toNat) 4 = Ez ((p0 + 1).toNat) 4 ∧ EF' ((p0 + 1).toNat) 4 = EF ((p0 + 1).toNat) 4)) ∧ (∀ j, j ≠ ((p0 + 1).toNat) → Ez' j = Ez j ∧ EF' j = EF j))) ∨ ((xFr [] [] z F z' F' ∧ eFr [] [] En Ez EF En' Ez' EF') ∧ ((q = 1 ∧ (¬ (0 ≤ p0 ∧ p0 < z 12))) ∨ (q = 2 ∧ ((0 ≤ p0 ∧ p0 < z 12) ∧ ¬ (1 ≤ p1 ∧ p1 ≤ 99999))) ∨ (q = 3 ∧ ((0 ≤ p0 ∧ p0 < z 12) ∧ (1 ≤ p1 ∧ p1 ≤ 99999) ∧ p2 = 0 ∧ Ez ((p0 + 1).toNat) 9 < 0 ∧ 20 ≤ Ez ((p0 + 1).toNat) 4)))))) (hm : (rr = 0 ∧ Gm = Fm ∧ J = va_up I 0 1 ∧ (p0 < 0 ∨ I 1 ≤ p0)) ∨ (rr = 0 ∧ Gm = Fm ∧ J = va_up I 0 2 ∧ (0 ≤ p0 ∧ p0 < I 1) ∧ (p1 < 1 ∨ 99999 < p1)) ∨ (rr = 0 ∧ Gm = Fm ∧ J = va_up I 0 3 ∧ (0 ≤ p0 ∧ p0 < I 1) ∧ (1 ≤ p1 ∧ p1 ≤ 99999) ∧ p2 = 0 ∧ Fm 11 p0 = 0 ∧ Fm 10 p0 = 20) ∨ (rr = 1 ∧ J = va_up I 0 0 ∧ Gm = va_up Fm 11 (upI (Fm 11) p0 p1) ∧ (0 ≤ p0 ∧ p0 < I 1) ∧ (1 ≤ p1 ∧ p1 ≤ 99999) ∧ p2 = 0 ∧ Fm 11 p0 = 0 ∧ ¬ Fm 10 p0 = 20) ∨ (rr = 0 ∧ J = va_up I 0 0 ∧ Gm = Fm ∧ (0 ≤ p0 ∧ p0 < I 1) ∧ (1 ≤ p1 ∧ p1 ≤ 99999) ∧ ((p2 = 0 ∧ ¬ Fm 11 p0 = 0) ∨ (¬ p2 = 0 ∧ (Fm 11 p0 = 0 ∨ p1 < Fm 11 p0)))) ∨ (rr = 1 ∧ J = va_up I 0 0 ∧ Gm = va_up (va_up (va_up (va_up (va_up (va_up Fm 6 (upI (Fm 6) (20 * p0 + Fm 10 p0) 1)) 7 (upI (Fm 7) (20 * p0 + Fm 10 p0) (Fm 11 p0))) 8 (upI (Fm 8) (20 * p0 + Fm 10 p0) p1)) 9 (upI (Fm 9) (20 * p0 + Fm 10 p0) (vp_nar .boolean (iz 1)).toInt)) 10 (upI (Fm 10) p0 (Fm 10 p0 + 1))) 11 (upI (Fm 11) p0 0) ∧ (0 ≤ p0 ∧ p0 < I 1) ∧ (1 ≤ p1 ∧ p1 ≤ 99999) ∧ ¬ p2 = 0 ∧ ¬ Fm 11 p0 = 0 ∧ Fm 11 p0 ≤ p1)) : J 0 = q ∧ (q = 0 → fo' 0 = Int32.toInt64 (iz rr)) ∧ lawR z' Ez' EF' J Gm ∧ mIk (k + 1) J Gm ∧ lawK Ez' EF' J Gm ∧ lawW z' F' Ez' J Gm := by
  obtain ⟨g1, g2, g3, g4, g5⟩ := sk_range hI hk hR hQ hp2 hc hm
  have hw9 : lawW z' F' Ez' J Gm := by
    obtain ⟨hN, hc⟩ := hc
    have hfr : ∃ S T S2 T2 : List Nat, xFr S T z F z' F' ∧ eFr S2 T2 En Ez EF En' Ez' EF' ∧ (15 ∉ S ∧ 12 ∉ S ∧ 1 ∉ S) ∧ 1 ∉ T ∧ (8 ∉ S2 ∧ 10 ∉ S2) := by
      rcases hc with ⟨-, h1, h2, -⟩ | ⟨⟨h1, h2⟩, -⟩
      · exact ⟨_, _, _, _, h1, h2, by decide, by decide, by decide⟩
      · exact ⟨_, _, _, _, h1, h2, by decide, by decide, by decide⟩
    obtain ⟨S, T, S2, T2, hx, he, d1, d2, d3⟩ := hfr
    rcases hm with ⟨m1, rfl, rfl, m2⟩ | ⟨m1, rfl, rfl, m2, m3⟩ | ⟨m1, rfl, rfl, m2, m3, m4, m5, m6⟩ | ⟨m1, rfl, rfl, m2, m3, m4, m5, m6⟩ | ⟨m1, rfl, rfl, m2, m3, m4⟩ | ⟨m1, rfl, rfl, m2, m3, m4, m5, m6⟩ <;> exact hW.keep hx he d1 d2 d3 rfl rfl rfl rfl rfl rfl rfl rfl rfl rfl rfl
  exact ⟨g1, g2, g3, g4, g5, hw9⟩
theorem sw_see {p0 p1 : Int} (hI : mIk k I Fm) (hk : k < 64) (hR : lawR z Ez EF I Fm) (hQ : lawK Ez EF I Fm) (hW : lawW z F Ez I Fm) (hc : N' = N ∧ ((q = 0 ∧ xFr [] [] z F z' F' ∧ eFr [3] [3] En Ez EF En' Ez' EF' ∧ ∃ v : Int, fo' 0 = Int32.toInt64 (iz v) ∧ (v = 0 ∨ v = 1)) ∨ ((xFr [] [] z F z' F' ∧ eFr [] [] En Ez EF En' Ez' EF') ∧ ((q = 1 ∧ (True)) ∨ (q = 2 ∧ (True)))))) (hm : (rr = 0 ∧ Gm = Fm ∧ J = va_up I 0 1) ∨ (rr = 0 ∧ Gm = Fm ∧ J = va_up I 0 2) ∨ (rr = 0 ∧ Gm = Fm ∧ J = va_up I 0 0) ∨ (rr = 1 ∧ J = va_up I 0 0 ∧ Gm = va_up (va_up Fm 12 (upI (Fm 12) (5 * p0 + Fm 13 p0) p1)) 13 (upI (Fm 13) p0 (Fm 13 p0 + 1)) ∧ (0 ≤ p0 ∧ p0 < I 1) ∧ (0 ≤ p1 ∧ p1 < I 1) ∧ Fm 13 p0 < 5)) : lawR z' Ez' EF' J Gm ∧ mIk (k + 1) J Gm ∧ lawK Ez' EF' J Gm ∧ lawW z' F' Ez' J Gm := by
  obtain ⟨g3, g4, g5⟩ := sk_see hI hk hR hQ hc hm
  have hw9 : lawW z' F' Ez' J Gm := by
    obtain ⟨hN, hc⟩ := hc
    have hfr : ∃ S T S2 T2 : List Nat, xFr S T z F z' F' ∧ eFr S2 T2 En Ez EF En' Ez' EF' ∧ (15 ∉ S ∧ 12 ∉ S ∧ 1 ∉ S) ∧ 1 ∉ T ∧ (8 ∉ S2 ∧ 10 ∉ S2) := by
      rcases hc with ⟨-, h1, h2, -⟩ | ⟨⟨h1, h2⟩, -⟩
      · exact ⟨_, _, _, _, h1, h2, by decide, by decide, by decide⟩
      · exact ⟨_, _, _, _, h1, h2, by decide, by decide, by decide⟩
    obtain ⟨S, T, S2, T2, hx, he, d1, d2, d3⟩ := hfr
    rcases hm with ⟨m1, rfl, rfl⟩ | ⟨m1, rfl, rfl⟩ | ⟨m1, rfl, rfl⟩ | ⟨m1, rfl, rfl, m2, m3, m4⟩ <;> exact hW.keep hx he d1 d2 d3 rfl rfl rfl rfl rfl rfl rfl rfl rfl rfl rfl
  exact ⟨g3, g4, g5, hw9⟩
theorem sw_entry {p0 p1 : Int} (hI : mIk k I Fm) (hk : k < 64) (hR : lawR z Ez EF I Fm) (hQ : lawK Ez EF I Fm) (hW : lawW z F Ez I Fm) (hN3 : (N : Int) = z 12 + 1) (hc : (q = 0 ∧ ∃ v : Int, fo' 0 = Int32.toInt64 (iz v) ∧ N' = N + 1 ∧ xFr [12, 15, 16] [] z F z' F' ∧ v = z 12 ∧ z' 12 = z 12 + 1 ∧ ((p0 = 0 ∧ p1 = -1) ∨ ((p0 = 1 ∨ p0 = 2) ∧ 0 ≤ p1 ∧ p1 < z 12 ∧ Ez ((p1 + 1).toNat) 7 = p0 - 1)) ∧ (∀ j, j < N → Ez' j = Ez j ∧ EF' j = EF j) ∧ Ez' N 7 = p0 ∧ Ez' N 0 = 0 ∧ Ez' N 4 = 0 ∧ Ez' N 9 = -1 ∧ Ez' N 1 = 0 ∧ Ez' N 2 = 0 ∧ Ez' N 3 = 0 ∧ Ez' N 8 = p1 ∧ z' 15 = 0) ∨ ((N' = N ∧ xFr [] [] z F z' F' ∧ eFr [] [] En Ez EF En' Ez' EF' ∧ z' 12 = z 12) ∧ ((q = 1 ∧ (¬ p1 = -1 ∧ ¬ (0 ≤ p1 ∧ p1 < z 12))) ∨ (q = 2 ∧ ((p1 = -1 ∨ (0 ≤ p1 ∧ p1 < z 12)) ∧ ¬ ((p0 = 0 ∧ p1 = -1) ∨ ((p0 = 1 ∨ p0 = 2) ∧ 0 ≤ p1 ∧ p1 < z 12 ∧ Ez ((p1 + 1).toNat) 7 = p0 - 1))))))) (hm : (rr = 0 ∧ Gm = Fm ∧ J = va_up I 0 1 ∧ ¬ p1 = -1 ∧ (p1 < 0 ∨ I 1 ≤ p1)) ∨ (rr = 0 ∧ Gm = Fm ∧ J = va_up I 0 2 ∧ (p1 = -1 ∨ (0 ≤ p1 ∧ p1 < I 1)) ∧ ¬ ((p0 = 0 ∧ p1 = -1) ∨ ((p0 = 1 ∨ p0 = 2) ∧ 0 ≤ p1 ∧ p1 < I 1 ∧ Fm 2 p1 = p0 - 1))) ∨ (J = va_up (va_up (va_up I 0 0) 16 0) 1 (I 1 + 1) ∧ Gm = va_up (va_up Fm 2 (upI (Fm 2) (I 1) p0)) 3 (upI (Fm 3) (I 1) p1) ∧ rr = I 1 ∧ ((p0 = 0 ∧ p1 = -1) ∨ ((p0 = 1 ∨ p0 = 2) ∧ 0 ≤ p1 ∧ p1 < I 1 ∧ Fm 2 p1 = p0 - 1)))) : J 0 = q ∧ (q = 0 → fo' 0 = Int32.toInt64 (iz rr)) ∧ lawR z' Ez' EF' J Gm ∧ mIk (k + 1) J Gm ∧ lawK Ez' EF' J Gm ∧ lawW z' F' Ez' J Gm := by
  have hv : (q = 0 ∧ ∃ v : Int, fo' 0 = Int32.toInt64 (iz v) ∧ N' = N + 1 ∧ xFr [12, 15, 16] [] z F z' F' ∧ v = z 12 ∧ z' 12 = z 12 + 1 ∧ ((p0 = 0 ∧ p1 = -1) ∨ ((p0 = 1 ∨ p0 = 2) ∧ 0 ≤ p1 ∧ p1 < z 12 ∧ Ez ((p1 + 1).toNat) 7 = p0 - 1)) ∧ (∀ j, j < N → Ez' j = Ez j ∧ EF' j = EF j) ∧ Ez' N 7 = p0 ∧ Ez' N 0 = 0 ∧ Ez' N 4 = 0 ∧ Ez' N 9 = -1 ∧ Ez' N 1 = 0 ∧ Ez' N 2 = 0) ∨ ((N' = N ∧ xFr [] [] z F z' F' ∧ eFr [] [] En Ez EF En' Ez' EF' ∧ z' 12 = z 12) ∧ ((q = 1 ∧ (¬ p1 = -1 ∧ ¬ (0 ≤ p1 ∧ p1 < z 12))) ∨ (q = 2 ∧ ((p1 = -1 ∨ (0 ≤ p1 ∧ p1 < z 12)) ∧ ¬ ((p0 = 0 ∧ p1 = -1) ∨ ((p0 = 1 ∨ p0 = 2) ∧ 0 ≤ p1 ∧ p1 < z 12 ∧ Ez ((p1 + 1).toNat) 7 = p0 - 1)))))) := by
    rcases hc with ⟨c1, v, c2, e1, hx, e2, e3, e4, hel, e5, e6, e7, e8, x1, x2, x3, x4, x5⟩ | c3
    · exact Or.inl ⟨c1, v, c2, e1, hx, e2, e3, e4, hel, e5, e6, e7, e8, x1, x2⟩
    · exact Or.inr c3
  obtain ⟨g1, g2, g3, g4, g5⟩ := sk_entry hI hk hR hQ hN3 hv hm
  have hw9 : lawW z' F' Ez' J Gm := by
    have hz12 := hR.2.1
    have hc1 := hI.1.hc
    rcases hc with ⟨c1, v, c2, e1, hx, e2, e3, e4, hel, e5, e6, e7, e8, x1, x2, x3, x4, x5⟩ | ⟨⟨hN, hx, he, hz⟩, c3⟩
    · rcases hm with ⟨m1, rfl, rfl, m2, m3⟩ | ⟨m1, rfl, rfl, m2, m3⟩ | ⟨rfl, rfl, m1, m2⟩
      · exact absurd (show (1 : Int) = q from g1) (by omega)
      · exact absurd (show (2 : Int) = q from g1) (by omega)
      · refine ⟨fun e h8 h9 => ?_, fun h9 => absurd h9 (by rw [x5]; decide), fun h9 => absurd (show (0 : Int) = 1 from h9) (by decide)⟩
        have h9' : e < I 1 + 1 := h9
        by_cases c : e = I 1
        · subst c
          have hj : (I 1 + 1).toNat = N := by omega
          rw [hj, x4]
          have u3 : va_up (va_up Fm 2 (upI (Fm 2) (I 1) p0)) 3 (upI (Fm 3) (I 1) p1) 3 (I 1) = p1 := upI_self _ _ _
          have u2 : va_up (va_up Fm 2 (upI (Fm 2) (I 1) p0)) 3 (upI (Fm 3) (I 1) p1) 2 (I 1) = p0 := upI_self _ _ _
          rw [u3, u2]
          exact ⟨rfl, fun h7 => by omega⟩
        · have hj : (e + 1).toNat < N := by omega
          obtain ⟨y1, y2⟩ := hel _ hj
          have u3 : va_up (va_up Fm 2 (upI (Fm 2) (I 1) p0)) 3 (upI (Fm 3) (I 1) p1) 3 e = Fm 3 e := upI_ne _ _ c
          have u2 : va_up (va_up Fm 2 (upI (Fm 2) (I 1) p0)) 3 (upI (Fm 3) (I 1) p1) 2 e = Fm 2 e := upI_ne _ _ c
          rw [y1, u3, u2]
          exact hW.1 e h8 (by omega)
    · have hq0 : ¬ q = 0 := by rcases c3 with ⟨c1, -⟩ | ⟨c1, -⟩ <;> omega
      rcases hm with ⟨m1, rfl, rfl, m2, m3⟩ | ⟨m1, rfl, rfl, m2, m3⟩ | ⟨rfl, rfl, m1, m2⟩
      · exact hW.keep hx he (by decide) (by decide) (by decide) rfl rfl rfl rfl rfl rfl rfl rfl rfl rfl rfl
      · exact hW.keep hx he (by decide) (by decide) (by decide) rfl rfl rfl rfl rfl rfl rfl rfl rfl rfl rfl
      · exact absurd (show (0 : Int) = q from g1).symm hq0
  exact ⟨g1, g2, g3, g4, g5, hw9⟩
theorem sw_sign {p0 p1 : Int} (hI : mIk k I Fm) (hk : k < 64) (hR : lawR z Ez EF I Fm) (hQ : lawK Ez EF I Fm) (hW : lawW z F Ez I Fm) (hc : N' = N ∧ ((q = 0 ∧ xFr [15, 16] [] z F z' F' ∧ eFr [0, 1, 2] [0, 1, 2] En Ez EF En' Ez' EF' ∧ ∃ v : Int, fo' 0 = Int32.toInt64 (iz v) ∧ ((((0 ≤ p0 ∧ p0 < z 12) ∧ (0 ≤ p1 ∧ p1 ≤ 255) ∧ Ez ((p0 + 1).toNat) 0 < 20 ∧ v = Ez ((p0 + 1).toNat) 0 + 1 ∧ Ez' ((p0 + 1).toNat) 0 = Ez ((p0 + 1).toNat) 0 + 1 ∧ (∀ j, j ≠ ((p0 + 1).toNat) → Ez' j = Ez j ∧ EF' j = EF j)) ∧ (iAdd 20 (Ez ((p0 + 1).toNat) 0) (EF ((p0 + 1).toNat) 0) (Ez' ((p0 + 1).toNat) 0) (EF' ((p0 + 1).toNat) 0) p1 ∧ iAdd 20 (Ez ((p0 + 1).toNat) 1) (EF ((p0 + 1).toNat) 1) (Ez' ((p0 + 1).toNat) 1) (EF' ((p0 + 1).toNat) 1) (kf_rk p1) ∧ kf_ls (EF' ((p0 + 1).toNat) 2) 0 (Ez' ((p0 + 1).toNat) 2).toNat = kf_kI (EF' ((p0 + 1).toNat) 0) (Ez' ((p0 + 1).toNat) 0) (z 13) (z 14) 0 0 0)) ∧ z' 15 = 0)) ∨ ((xFr [] [] z F z' F' ∧ eFr [] [] En Ez EF En' Ez' EF') ∧ ((q = 1 ∧ (¬ (0 ≤ p0 ∧ p0 < z 12))) ∨ (q = 2 ∧ ((0 ≤ p0 ∧ p0 < z 12) ∧ (p1 < 0 ∨ 255 < p1))) ∨ (q = 3 ∧ ((0 ≤ p0 ∧ p0 < z 12) ∧ (0 ≤ p1 ∧ p1 ≤ 255) ∧ 20 ≤ Ez ((p0 + 1).toNat) 0)))))) (hm : (rr = 0 ∧ Gm = Fm ∧ J = va_up I 0 1 ∧ (p0 < 0 ∨ I 1 ≤ p0)) ∨ (rr = 0 ∧ Gm = Fm ∧ J = va_up I 0 2 ∧ (0 ≤ p0 ∧ p0 < I 1) ∧ (p1 < 0 ∨ 255 < p1)) ∨ (rr = 0 ∧ Gm = Fm ∧ J = va_up I 0 3 ∧ (0 ≤ p0 ∧ p0 < I 1) ∧ (0 ≤ p1 ∧ p1 ≤ 255) ∧ Fm 5 p0 = 20) ∨ (J = va_up (va_up I 0 0) 16 0 ∧ Gm = va_up (va_up Fm 4 (upI (Fm 4) (20 * p0 + Fm 5 p0) p1)) 5 (upI (Fm 5) p0 (Fm 5 p0 + 1)) ∧ rr = Fm 5 p0 + 1 ∧ (0 ≤ p0 ∧ p0 < I 1) ∧ (0 ≤ p1 ∧ p1 ≤ 255) ∧ ¬ Fm 5 p0 = 20)) : J 0 = q ∧ (q = 0 → fo' 0 = Int32.toInt64 (iz rr)) ∧ lawR z' Ez' EF' J Gm ∧ mIk (k + 1) J Gm ∧ lawK Ez' EF' J Gm ∧ lawW z' F' Ez' J Gm := by
  have hv : N' = N ∧ ((q = 0 ∧ xFr [15, 16] [] z F z' F' ∧ eFr [0, 1, 2] [0, 1, 2] En Ez EF En' Ez' EF' ∧ ∃ v : Int, fo' 0 = Int32.toInt64 (iz v) ∧ (((0 ≤ p0 ∧ p0 < z 12) ∧ (0 ≤ p1 ∧ p1 ≤ 255) ∧ Ez ((p0 + 1).toNat) 0 < 20 ∧ v = Ez ((p0 + 1).toNat) 0 + 1 ∧ Ez' ((p0 + 1).toNat) 0 = Ez ((p0 + 1).toNat) 0 + 1 ∧ (∀ j, j ≠ ((p0 + 1).toNat) → Ez' j = Ez j ∧ EF' j = EF j)) ∧ (iAdd 20 (Ez ((p0 + 1).toNat) 0) (EF ((p0 + 1).toNat) 0) (Ez' ((p0 + 1).toNat) 0) (EF' ((p0 + 1).toNat) 0) p1 ∧ iAdd 20 (Ez ((p0 + 1).toNat) 1) (EF ((p0 + 1).toNat) 1) (Ez' ((p0 + 1).toNat) 1) (EF' ((p0 + 1).toNat) 1) (kf_rk p1) ∧ kf_ls (EF' ((p0 + 1).toNat) 2) 0 (Ez' ((p0 + 1).toNat) 2).toNat = kf_kI (EF' ((p0 + 1).toNat) 0) (Ez' ((p0 + 1).toNat) 0) (z 13) (z 14) 0 0 0))) ∨ ((xFr [] [] z F z' F' ∧ eFr [] [] En Ez EF En' Ez' EF') ∧ ((q = 1 ∧ (¬ (0 ≤ p0 ∧ p0 < z 12))) ∨ (q = 2 ∧ ((0 ≤ p0 ∧ p0 < z 12) ∧ (p1 < 0 ∨ 255 < p1))) ∨ (q = 3 ∧ ((0 ≤ p0 ∧ p0 < z 12) ∧ (0 ≤ p1 ∧ p1 ≤ 255) ∧ 20 ≤ Ez ((p0 + 1).toNat) 0))))) := by
    obtain ⟨hN, hc⟩ := hc
    rcases hc with ⟨c1, hx, he, v, c2, c3, c4⟩ | c3
    · exact ⟨hN, Or.inl ⟨c1, hx, he, v, c2, c3⟩⟩
    · exact ⟨hN, Or.inr c3⟩
  obtain ⟨g1, g2, g3, g4, g5⟩ := sk_sign hI hk hR hQ hv hm
  have hw9 : lawW z' F' Ez' J Gm := by
    obtain ⟨hN, hc⟩ := hc
    rcases hc with ⟨c1, hx, he, v, c2, c3, c4⟩ | ⟨⟨hx, he⟩, c3⟩
    · rcases hm with ⟨m1, rfl, rfl, m2⟩ | ⟨m1, rfl, rfl, m2, m3⟩ | ⟨m1, rfl, rfl, m2, m3, m4⟩ | ⟨rfl, rfl, m1, m2, m3, m4⟩
      · exact absurd (show (1 : Int) = q from g1) (by omega)
      · exact absurd (show (2 : Int) = q from g1) (by omega)
      · exact absurd (show (3 : Int) = q from g1) (by omega)
      · refine ⟨fun e h8 h9 => ?_, fun h9 => absurd h9 (by rw [c4]; decide), fun h9 => absurd (show (0 : Int) = 1 from h9) (by decide)⟩
        rw [he.1 _ 8 (by decide)]
        exact hW.1 e h8 h9
    · have hq0 : ¬ q = 0 := by rcases c3 with ⟨c1, -⟩ | ⟨c1, -⟩ | ⟨c1, -⟩ <;> omega
      rcases hm with ⟨m1, rfl, rfl, m2⟩ | ⟨m1, rfl, rfl, m2, m3⟩ | ⟨m1, rfl, rfl, m2, m3, m4⟩ | ⟨rfl, rfl, m1, m2, m3, m4⟩
      · exact hW.keep hx he (by decide) (by decide) (by decide) rfl rfl rfl rfl rfl rfl rfl rfl rfl rfl rfl
      · exact hW.keep hx he (by decide) (by decide) (by decide) rfl rfl rfl rfl rfl rfl rfl rfl rfl rfl rfl
      · exact hW.keep hx he (by decide) (by decide) (by decide) rfl rfl rfl rfl rfl rfl rfl rfl rfl rfl rfl
      · exact absurd (show (0 : Int) = q from g1).symm hq0
  exact ⟨g1, g2, g3, g4, g5, hw9⟩
theorem sw_rule {p0 p1 : Int} (hI : mIk k I Fm) (hk : k < 64) (hR : lawR z Ez EF I Fm) (hQ : lawK Ez EF I Fm) (hW : lawW z F Ez I Fm) (hp1 : p1 = 0 ∨ p1 = 1) (hc : N' = N ∧ ((q = 0 ∧ xFr [13, 14, 15, 16] [] z F z' F' ∧ eFr [2] [2] En Ez EF En' Ez' EF' ∧ ∃ v : Int, fo' 0 = Int32.toInt64 (iz v) ∧ ((((p0 = 0 ∧ v = z 13 ∧ z' 13 = p1 ∧ z' 14 = z 14) ∨ (p0 = 1 ∧ v = z 14 ∧ z' 14 = p1 ∧ z' 13 = z 13)) ∧ ((z' 13 = z 13 ∧ z' 14 = z 14 ∧ ∀ j, Ez' j = Ez j ∧ EF' j = EF j) ∨ (∀ j : Nat, 1 ≤ j → (j : Int) ≤ z 12 → kf_ls (EF' j 2) 0 (Ez' j 2).toNat = kf_kI (EF j 0) (Ez j 0) (z' 13) (z' 14) 0 0 0))) ∧ (z' 15 = 0 ∨ ((z' 15 = z 15 ∧ z' 13 = z 13 ∧ z' 14 = z 14 ∧ z' 1 = z 1) ∧ F' 1 = F 1 ∧ ∀ j, Ez' j = Ez j)))) ∨ ((xFr [] [] z F z' F' ∧ eFr [] [] En Ez EF En' Ez' EF') ∧ ((q = 1 ∧ (¬ p0 = 0 ∧ ¬ p0 = 1)))))) (hm : (rr = 0 ∧ Gm = Fm ∧ J = va_up I 0 1 ∧ ¬ p0 = 0 ∧ ¬ p0 = 1) ∨ (Gm = Fm ∧ p0 = 0 ∧ rr = I 14 ∧ J = va_up (va_up (va_up (va_up I 0 0) 14 p1) 15 (I 15)) 16 0) ∨ (Gm = Fm ∧ p0 = 1 ∧ rr = I 15 ∧ J = va_up (va_up (va_up (va_up I 0 0) 14 (I 14)) 15 p1) 16 0)) : J 0 = q ∧ (q = 0 → fo' 0 = Int32.toInt64 (iz rr)) ∧ lawR z' Ez' EF' J Gm ∧ mIk (k + 1) J Gm ∧ lawK Ez' EF' J Gm ∧ lawW z' F' Ez' J Gm := by
  have hv : N' = N ∧ ((q = 0 ∧ xFr [13, 14, 15, 16] [] z F z' F' ∧ eFr [2] [2] En Ez EF En' Ez' EF' ∧ ∃ v : Int, fo' 0 = Int32.toInt64 (iz v) ∧ (((p0 = 0 ∧ v = z 13 ∧ z' 13 = p1 ∧ z' 14 = z 14) ∨ (p0 = 1 ∧ v = z 14 ∧ z' 14 = p1 ∧ z' 13 = z 13)) ∧ ((z' 13 = z 13 ∧ z' 14 = z 14 ∧ ∀ j, Ez' j = Ez j ∧ EF' j = EF j) ∨ (∀ j : Nat, 1 ≤ j → (j : Int) ≤ z 12 → kf_ls (EF' j 2) 0 (Ez' j 2).toNat = kf_kI (EF j 0) (Ez j 0) (z' 13) (z' 14) 0 0 0)))) ∨ ((xFr [] [] z F z' F' ∧ eFr [] [] En Ez EF En' Ez' EF') ∧ ((q = 1 ∧ (¬ p0 = 0 ∧ ¬ p0 = 1))))) := by
    obtain ⟨hN, hc⟩ := hc
    rcases hc with ⟨c1, hx, he, v, c2, c3, c4⟩ | c3
    · exact ⟨hN, Or.inl ⟨c1, hx, he, v, c2, c3⟩⟩
    · exact ⟨hN, Or.inr c3⟩
  obtain ⟨g1, g2, g3, g4, g5⟩ := sk_rule hI hk hR hQ hp1 hv hm
  have hw9 : lawW z' F' Ez' J Gm := by
    have a13 := hR.2.2.1
    have a14 := hR.2.2.2.1
    have b13 := g3.2.2.1
    have b14 := g3.2.2.2.1
    obtain ⟨hN, hc⟩ := hc
    rcases hc with ⟨c1, hx, he, v, c2, c3, c4⟩ | ⟨⟨hx, he⟩, c3⟩
    · rcases hm with ⟨m1, rfl, rfl, m2, m3⟩ | ⟨rfl, m1, m2, rfl⟩ | ⟨rfl, m1, m2, rfl⟩
      · exact absurd (show (1 : Int) = q from g1) (by omega)
      · have b13' : z' 13 = p1 := b13
        have b14' : z' 14 = I 15 := b14
        refine ⟨fun e h8 h9 => by rw [he.1 _ 8 (by decide)]; exact hW.1 e h8 h9, ?_, fun h9 => absurd (show (0 : Int) = 1 from h9) (by decide)⟩
        rcases c4 with c4 | ⟨⟨d1, d2, d3, d4⟩, d5, d6⟩
        · exact fun h9 => absurd h9 (by rw [c4]; decide)
        · have eoc : kf_oc (va_up (va_up (va_up (va_up I 0 0) 14 (p1)) 15 (I 15)) 16 0) Gm = kf_oc I Gm := kf_oc_fr (show p1 = I 14 by omega) (show I 15 = I 15 by omega) rfl rfl
          rw [eoc]
          exact rs_RK.fr hW.2.1 d1 (hx.1 12 (by decide)) d4 d5 (fun j => by rw [d6 j])
      · have b13' : z' 13 = I 14 := b13
        have b14' : z' 14 = p1 := b14
        refine ⟨fun e h8 h9 => by rw [he.1 _ 8 (by decide)]; exact hW.1 e h8 h9, ?_, fun h9 => absurd (show (0 : Int) = 1 from h9) (by decide)⟩
        rcases c4 with c4 | ⟨⟨d1, d2, d3, d4⟩, d5, d6⟩
        · exact fun h9 => absurd h9 (by rw [c4]; decide)
        · have eoc : kf_oc (va_up (va_up (va_up (va_up I 0 0) 14 (I 14)) 15 (p1)) 16 0) Gm = kf_oc I Gm := kf_oc_fr (show I 14 = I 14 by omega) (show p1 = I 15 by omega) rfl rfl
          rw [eoc]
          exact rs_RK.fr hW.2.1 d1 (hx.1 12 (by decide)) d4 d5 (fun j => by rw [d6 j])
    · have hq0 : ¬ q = 0 := by obtain ⟨c1, -⟩ := c3; omega
      rcases hm with ⟨m1, rfl, rfl, m2, m3⟩ | ⟨rfl, m1, m2, rfl⟩ | ⟨rfl, m1, m2, rfl⟩
      · exact hW.keep hx he (by decide) (by decide) (by decide) rfl rfl rfl rfl rfl rfl rfl rfl rfl rfl rfl
      · exact absurd (show (0 : Int) = q from g1).symm hq0
      · exact absurd (show (0 : Int) = q from g1).symm hq0
  exact ⟨g1, g2, g3, g4, g5, hw9⟩
theorem sw_row (hI : mIk k I Fm) (hR : lawR z Ez EF I Fm) (hQ : lawK Ez EF I Fm) (hW : lawW z F Ez I Fm) (hc : N' = N ∧ ((q = 0 ∧ xFr [0, 1, 2, 4, 5, 6, 7, 8, 9, 15, 16] [0, 1, 2, 4, 5, 6, 7, 8, 9] z F z' F' ∧ eFr [10] [] En Ez EF En' Ez' EF' ∧ ∃ v : Int, fo' 0 = Int32.toInt64 (iz v) ∧ (rs_RK z' F' Ez' (Fm 2) (Fm 3) (rs_wd Fm) (kf_oc I Fm))) ∨ ((xFr [0, 1, 2, 4, 5, 6, 7, 8, 9, 15, 16] [0, 1, 2, 4, 5, 6, 7, 8, 9] z F z' F' ∧ eFr [10] [] En Ez EF En' Ez' EF' ∧ (rs_RK z' F' Ez' (Fm 2) (Fm 3) (rs_wd Fm) (kf_oc I Fm))) ∧ ((q = 1 ∧ (True)))))) (hm : mWk I Fm J Gm ∧ mKb J Gm) : lawR z' Ez' EF' J Gm ∧ mIk (k + 1) J Gm ∧ lawK Ez' EF' J Gm ∧ lawW z' F' Ez' J Gm := by
  obtain ⟨hN, hc⟩ := hc
  obtain ⟨hw, hkb⟩ := hm
  rcases hc with ⟨-, hx, he, v, -, hrk⟩ | ⟨⟨hx, he, hrk⟩, -⟩
  · have q := st_ask hI hR hx he (by decide) (by decide) (by decide) hw
    exact ⟨q.1, q.2, hQ.ask he (by decide) (by decide) hw, hW.ask (S := []) (T := []) he (by decide) hw hrk hkb.2⟩
  · have q := st_ask hI hR hx he (by decide) (by decide) (by decide) hw
    exact ⟨q.1, q.2, hQ.ask he (by decide) (by decide) hw, hW.ask (S := []) (T := []) he (by decide) hw hrk hkb.2⟩
theorem sw_locator (hI : mIk k I Fm) (hR : lawR z Ez EF I Fm) (hQ : lawK Ez EF I Fm) (hW : lawW z F Ez I Fm) (hc : N' = N ∧ ((q = 0 ∧ xFr [0, 1, 2, 4, 5, 6, 7, 8, 9, 15, 16] [0, 1, 2, 4, 5, 6, 7, 8, 9] z F z' F' ∧ eFr [10] [] En Ez EF En' Ez' EF' ∧ ∃ v : Int, fo' 0 = Int32.toInt64 (iz v) ∧ (rs_RK z' F' Ez' (Fm 2) (Fm 3) (rs_wd Fm) (kf_oc I Fm))) ∨ ((xFr [0, 1, 2, 4, 5, 6, 7, 8, 9, 15, 16] [0, 1, 2, 4, 5, 6, 7, 8, 9] z F z' F' ∧ eFr [10] [] En Ez EF En' Ez' EF' ∧ (rs_RK z' F' Ez' (Fm 2) (Fm 3) (rs_wd Fm) (kf_oc I Fm))) ∧ ((q = 1 ∧ (True)))))) (hm : mWk I Fm J Gm ∧ mKb J Gm) : lawR z' Ez' EF' J Gm ∧ mIk (k + 1) J Gm ∧ lawK Ez' EF' J Gm ∧ lawW z' F' Ez' J Gm := by
  obtain ⟨hN, hc⟩ := hc
  obtain ⟨hw, hkb⟩ := hm
  rcases hc with ⟨-, hx, he, v, -, hrk⟩ | ⟨⟨hx, he, hrk⟩, -⟩
  · have q := st_ask hI hR hx he (by decide) (by decide) (by decide) hw
    exact ⟨q.1, q.2, hQ.ask he (by decide) (by decide) hw, hW.ask (S := []) (T := []) he (by decide) hw hrk hkb.2⟩
  · have q := st_ask hI hR hx he (by decide) (by decide) (by decide) hw
    exact ⟨q.1, q.2, hQ.ask he (by decide) (by decide) hw, hW.ask (S := []) (T := []) he (by decide) hw hrk hkb.2⟩
theorem sw_told (hI : mIk k I Fm) (hR : lawR z Ez EF I Fm) (hQ : lawK Ez EF I Fm) (hW : lawW z F Ez I Fm) (hc : N' = N ∧ ((q = 0 ∧ xFr [0, 1, 15, 17, 18, 19, 20, 21] [0, 1] z F z' F' ∧ eFr [10, 11, 12, 13] [] En Ez EF En' Ez' EF' ∧ ∃ v : Int, fo' 0 = Int32.toInt64 (iz v) ∧ (rs_RK z' F' Ez' (Fm 2) (Fm 3) (rs_wd Fm) (kf_oc I Fm))) ∨ ((xFr [0, 1, 15, 17, 18, 19, 20, 21] [0, 1] z F z' F' ∧ eFr [10, 11, 12, 13] [] En Ez EF En' Ez' EF' ∧ (rs_RK z' F' Ez' (Fm 2) (Fm 3) (rs_wd Fm) (kf_oc I Fm))) ∧ ((q = 1 ∧ (True)))))) (hm : mWk I Fm J Gm ∧ mKb J Gm) : lawR z' Ez' EF' J Gm ∧ mIk (k + 1) J Gm ∧ lawK Ez' EF' J Gm ∧ lawW z' F' Ez' J Gm := by
  obtain ⟨hN, hc⟩ := hc
  obtain ⟨hw, hkb⟩ := hm
  rcases hc with ⟨-, hx, he, v, -, hrk⟩ | ⟨⟨hx, he, hrk⟩, -⟩
  · have q := st_ask hI hR hx he (by decide) (by decide) (by decide) hw
    exact ⟨q.1, q.2, hQ.ask he (by decide) (by decide) hw, hW.ask (S := []) (T := []) he (by decide) hw hrk hkb.2⟩
  · have q := st_ask hI hR hx he (by decide) (by decide) (by decide) hw
    exact ⟨q.1, q.2, hQ.ask he (by decide) (by decide) hw, hW.ask (S := []) (T := []) he (by decide) hw hrk hkb.2⟩
theorem sw_print (hI : mIk k I Fm) (hR : lawR z Ez EF I Fm) (hQ : lawK Ez EF I Fm) (hW : lawW z F Ez I Fm) (hc : N' = N ∧ ((q = 0 ∧ xFr [0, 1, 2, 4, 5, 6, 7, 8, 9, 10, 11, 15, 16, 22, 23] [0, 1, 2, 4, 5, 6, 7, 8, 9, 10, 11] z F z' F' ∧ eFr [10] [] En Ez EF En' Ez' EF' ∧ ∃ v : Int, fo' 0 = Int32.toInt64 (iz v) ∧ (rs_RK z' F' Ez' (Fm 2) (Fm 3) (rs_wd Fm) (kf_oc I Fm))) ∨ ((xFr [0, 1, 2, 4, 5, 6, 7, 8, 9, 10, 11, 15, 16, 22, 23] [0, 1, 2, 4, 5, 6, 7, 8, 9, 10, 11] z F z' F' ∧ eFr [10] [] En Ez EF En' Ez' EF' ∧ (rs_RK z' F' Ez' (Fm 2) (Fm 3) (rs_wd Fm) (kf_oc I Fm))) ∧ ((q = 1 ∧ (True)))))) (hm : mWk I Fm J Gm ∧ mKb J Gm) : lawR z' Ez' EF' J Gm ∧ mIk (k + 1) J Gm ∧ lawK Ez' EF' J Gm ∧ lawW z' F' Ez' J Gm := by
  obtain ⟨hN, hc⟩ := hc
  obtain ⟨hw, hkb⟩ := hm
  rcases hc with ⟨-, hx, he, v, -, hrk⟩ | ⟨⟨hx, he, hrk⟩, -⟩
  · have q := st_ask hI hR hx he (by decide) (by decide) (by decide) hw
    exact ⟨q.1, q.2, hQ.ask he (by decide) (by decide) hw, hW.ask (S := []) (T := []) he (by decide) hw hrk hkb.2⟩
  · have q := st_ask hI hR hx he (by decide) (by decide) (by decide) hw
    exact ⟨q.1, q.2, hQ.ask he (by decide) (by decide) hw, hW.ask (S := []) (T := []) he (by decide) hw hrk hkb.2⟩
theorem sw_compare {p0 p1 : Int} (hI : mIk k I Fm) (hR : lawR z Ez EF I Fm) (hQ : lawK Ez EF I Fm) (hW : lawW z F Ez I Fm) (hc : N' = N ∧ ((q = 0 ∧ xFr [] [] z F z' F' ∧ eFr [] [] En Ez EF En' Ez' EF' ∧ ∃ v : Int, fo' 0 = Int32.toInt64 (iz v) ∧ (((0 ≤ p0 ∧ p0 < z 12) ∧ (0 ≤ p1 ∧ p1 < z 12)) ∧ ((¬ kf_lx (kf_ls (EF ((p0 + 1).toNat) 2) 0 (Ez ((p0 + 1).toNat) 2).toNat) (kf_ls (EF ((p1 + 1).toNat) 2) 0 (Ez ((p1 + 1).toNat) 2).toNat) = 0 ∧ v = kf_lx (kf_ls (EF ((p0 + 1).toNat) 2) 0 (Ez ((p0 + 1).toNat) 2).toNat) (kf_ls (EF ((p1 + 1).toNat) 2) 0 (Ez ((p1 + 1).toNat) 2).toNat)) ∨ (kf_lx (kf_ls (EF ((p0 + 1).toNat) 2) 0 (Ez ((p0 + 1).toNat) 2).toNat) (kf_ls (EF ((p1 + 1).toNat) 2) 0 (Ez ((p1 + 1).toNat) 2).toNat) = 0 ∧ v = kf_lx (kf_ls (EF ((p0 + 1).toNat) 1) 0 (Ez ((p0 + 1).toNat) 1).toNat) (kf_ls (EF ((p1 + 1).toNat) 1) 0 (Ez ((p1 + 1).toNat) 1).toNat))))) ∨ ((xFr [] [] z F z' F' ∧ eFr [] [] En Ez EF En' Ez' EF') ∧ ((q = 1 ∧ (¬ ((0 ≤ p0 ∧ p0 < z 12) ∧ (0 ≤ p1 ∧ p1 < z 12)))))))) (hm : mWk I Fm J Gm ∧ mKb J Gm) : lawR z' Ez' EF' J Gm ∧ mIk (k + 1) J Gm ∧ lawK Ez' EF' J Gm ∧ lawW z' F' Ez' J Gm := by
  obtain ⟨hN, hc⟩ := hc
  obtain ⟨hw, hkb⟩ := hm
  have hfr : xFr [] [] z F z' F' ∧ eFr [] [] En Ez EF En' Ez' EF' := by
    rcases hc with ⟨-, hx, he, -⟩ | ⟨⟨hx, he⟩, -⟩
    · exact ⟨hx, he⟩
    · exact ⟨hx, he⟩
  obtain ⟨hx, he⟩ := hfr
  have q := st_ask hI hR hx he (by decide) (by decide) (by decide) hw
  exact ⟨q.1, q.2, hQ.ask he (by decide) (by decide) hw, hW.ask (S := []) (T := []) he (by decide) hw (rs_RK.fr hW.2.1 (hx.1 15 (by decide)) (hx.1 12 (by decide)) (hx.1 1 (by decide)) (hx.2 1 (by decide)) (fun j => he.1 j 10 (by decide))) hkb.2⟩
theorem sw_at (hI : mIk k I Fm) (hR : lawR z Ez EF I Fm) (hQ : lawK Ez EF I Fm) (hW : lawW z F Ez I Fm) (hc : N' = N ∧ ((q = 0 ∧ xFr [] [] z F z' F' ∧ eFr [] [] En Ez EF En' Ez' EF' ∧ ∃ v : Int, fo' 0 = Int32.toInt64 (iz v) ∧ (True)) ∨ ((xFr [] [] z F z' F' ∧ eFr [] [] En Ez EF En' Ez' EF') ∧ ((q = 1 ∧ (True)))))) (hm : mWk I Fm J Gm ∧ mKb J Gm) : lawR z' Ez' EF' J Gm ∧ mIk (k + 1) J Gm ∧ lawK Ez' EF' J Gm ∧ lawW z' F' Ez' J Gm := by
  obtain ⟨hN, hc⟩ := hc
  obtain ⟨hw, hkb⟩ := hm
  have hfr : xFr [] [] z F z' F' ∧ eFr [] [] En Ez EF En' Ez' EF' := by
    rcases hc with ⟨-, hx, he, -⟩ | ⟨⟨hx, he⟩, -⟩
    · exact ⟨hx, he⟩
    · exact ⟨hx, he⟩
  obtain ⟨hx, he⟩ := hfr
  have q := st_ask hI hR hx he (by decide) (by decide) (by decide) hw
  exact ⟨q.1, q.2, hQ.ask he (by decide) (by decide) hw, hW.ask (S := []) (T := []) he (by decide) hw (rs_RK.fr hW.2.1 (hx.1 15 (by decide)) (hx.1 12 (by decide)) (hx.1 1 (by decide)) (hx.2 1 (by decide)) (fun j => he.1 j 10 (by decide))) hkb.2⟩
theorem sw_run (hI : mIk k I Fm) (hR : lawR z Ez EF I Fm) (hQ : lawK Ez EF I Fm) (hW : lawW z F Ez I Fm) (hx : xFr [0, 1, 15] [0, 1] z F z' F') (he : eFr [10] [] En Ez EF En' Ez' EF') (hz : 0 ≤ z' 1) (hc : rs_RK z' F' Ez' (Fm 2) (Fm 3) (rs_wd Fm) (kf_oc I Fm) ∧ z' 15 = 1 ∧ q = z' 1) (hm : mWk I Fm J Gm ∧ mKb J Gm ∧ J 16 = 1 ∧ rr = J 19) : q = rr ∧ lawR z' Ez' EF' J Gm ∧ mIk (k + 1) J Gm ∧ lawK Ez' EF' J Gm ∧ lawW z' F' Ez' J Gm := by
  obtain ⟨hw, hkb, m16, m19⟩ := hm
  obtain ⟨hrk, c15, c1⟩ := hc
  have q0 := st_ask hI hR hx he (by decide) (by decide) (by decide) hw
  refine ⟨?_, q0.1, q0.2, hQ.ask he (by decide) (by decide) hw, hW.ask (S := []) (T := []) he (by decide) hw hrk hkb.2⟩
  have hf := hw.2.1
  obtain ⟨r1, r2, r3⟩ := hrk c15
  obtain ⟨k1, k2, k3⟩ := hkb.2 m16
  have e12 : z' 12 = I 1 := by rw [hx.1 12 (by decide)]; exact hR.2.1
  have hsz := (q0.2.1.hkn m16).2.1
  rw [e12] at r1 r3
  rw [hf.1 1 (by decide), hf.2 2 (by decide), hf.2 3 (by decide), rs_wd_fr (hf.2 4 (by decide)) (hf.2 5 (by decide))] at k1
  rw [hf.2 2 (by decide), hf.2 3 (by decide), kf_oc_fr (hf.1 14 (by decide)) (hf.1 15 (by decide)) (hf.2 4 (by decide)) (hf.2 5 (by decide))] at k2
  rw [hf.1 1 (by decide)] at k3
  have q1 := (rs_rows_eq (hW.lv hI) (rs_wd_W Fm) (kf_oc_cm I Fm) hz hsz.1 r1 r2 r3 k1 k2 k3).1.1
  omega
end RST
