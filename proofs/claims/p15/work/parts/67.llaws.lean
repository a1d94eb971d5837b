/-! class and reference, call by call: pages and locators -/
def lawP (Ez : Nat → Nat → Int) (EF : Nat → Nat → Int → Int) (I : Nat → Int) (Fm : Nat → Int → Int) : Prop := ∀ e, 0 ≤ e → e < I 1 → (Ez ((e + 1).toNat) 4 = Ez ((e + 1).toNat) 5 ∧ Ez ((e + 1).toNat) 5 = Ez ((e + 1).toNat) 6) ∧ (lo_P Ez EF e).Perm (lo_R Fm e) ∧ (∀ x, x ∈ lo_R Fm e → lo_v x) ∧ (0 < Fm 11 e → EF ((e + 1).toNat) 5 (Ez ((e + 1).toNat) 9) = 100000 + Fm 11 e ∧ EF ((e + 1).toNat) 6 (Ez ((e + 1).toNat) 9) = 0)
def lawR5 (z : Nat → Int) (F : Nat → Int → Int) (Ez : Nat → Nat → Int) (EF : Nat → Nat → Int → Int) (I : Nat → Int) (Fm : Nat → Int → Int) : Prop := (lawR z Ez EF I Fm ∧ lawK Ez EF I Fm ∧ lawW z F Ez I Fm ∧ lawS Ez EF I Fm) ∧ lawP Ez EF I Fm ∧ lo_K z F Ez EF
theorem lo_perm3 {a b : List lo_T} (x : lo_T) : ((a ++ [x]) ++ b).Perm ((a ++ b) ++ [x]) := by
  rw [List.append_assoc]
  have p1 : (a ++ ([x] ++ b)).Perm (x :: (a ++ b)) := List.perm_middle
  have p2 : ((a ++ b) ++ [x]).Perm (x :: ((a ++ b) ++ [])) := List.perm_middle
  rw [List.append_nil] at p2
  exact p1.trans p2.symm
theorem lo_Ro_0 {F : Nat → Int → Int} {e : Int} (h : ¬ 0 < F 11 e) : lo_Ro F e = [] := if_neg h
theorem lo_Ro_1 {F : Nat → Int → Int} {e : Int} (h : 0 < F 11 e) : lo_Ro F e = [(100000 * 1 + F 11 e, 100000 * 1 + F 11 e, 0)] := if_pos h
/-- at other entries nothing is kept anew -/
theorem lo_R_ne {F G : Nat → Int → Int} {e p : Int} {m : Int} (h6 : ∀ i, ¬ i = 20 * p + m → G 6 i = F 6 i) (h7 : ∀ i, ¬ i = 20 * p + m → G 7 i = F 7 i) (h8 : ∀ i, ¬ i = 20 * p + m → G 8 i = F 8 i) (h9 : ∀ i, ¬ i = 20 * p + m → G 9 i = F 9 i) (h10 : G 10 e = F 10 e) (h11 : G 11 e = F 11 e) (hm : 0 ≤ m ∧ m < 20) (hb : F 10 e ≤ 20) (hd : ¬ e = p ∨ F 10 e ≤ m) : lo_R G e = lo_R F e := by
  unfold lo_R lo_Ro
  rw [h10, h11]
  congr 1
  refine lo_ls_cg _ _ _ (fun k hk => ?_)
  have hne : ¬ 20 * e + ((0 : Int) + k) = 20 * p + m := by omega
  unfold lo_Rf lo_Rt lo_Rr
  show 100000 * G 6 (20 * e + ((0 : Int) + k)) + G 7 (20 * e + ((0 : Int) + k)) = _ ∧ 100000 * G 6 (20 * e + ((0 : Int) + k)) + G 8 (20 * e + ((0 : Int) + k)) = _ ∧ G 9 (20 * e + ((0 : Int) + k)) = _
  rw [h6 _ hne, h7 _ hne, h8 _ hne, h9 _ hne]
  exact ⟨rfl, rfl, rfl⟩
/-- one more is kept -/
theorem lo_R_add {F G : Nat → Int → Int} {e kd fr to rg : Int} (h0 : 0 ≤ F 10 e) (h6 : G 6 = upI (F 6) (20 * e + F 10 e) kd) (h7 : G 7 = upI (F 7) (20 * e + F 10 e) fr) (h8 : G 8 = upI (F 8) (20 * e + F 10 e) to) (h9 : G 9 = upI (F 9) (20 * e + F 10 e) rg) (h10 : G 10 e = F 10 e + 1) : lo_R G e = (lo_ls (lo_Rf F e) (lo_Rt F e) (lo_Rr F e) (F 10 e).toNat 0 ++ [(100000 * kd + fr, 100000 * kd + to, rg)]) ++ lo_Ro G e := by
  have g1 : ∀ j, 0 ≤ j → j < F 10 e → lo_Rf G e j = lo_Rf F e j := fun j a b => by
    show 100000 * G 6 (20 * e + j) + G 7 (20 * e + j) = 100000 * F 6 (20 * e + j) + F 7 (20 * e + j)
    rw [h6, h7, upI_ne _ _ (by omega), upI_ne _ _ (by omega)]
  have g2 : ∀ j, 0 ≤ j → j < F 10 e → lo_Rt G e j = lo_Rt F e j := fun j a b => by
    show 100000 * G 6 (20 * e + j) + G 8 (20 * e + j) = 100000 * F 6 (20 * e + j) + F 8 (20 * e + j)
    rw [h6, h8, upI_ne _ _ (by omega), upI_ne _ _ (by omega)]
  have g3 : ∀ j, 0 ≤ j → j < F 10 e → lo_Rr G e j = lo_Rr F e j := fun j a b => by
    show G 9 (20 * e + j) = F 9 (20 * e + j)
    rw [h9, upI_ne _ _ (by omega)]
  have g4 : lo_Rf G e (F 10 e) = 100000 * kd + fr := by
    show 100000 * G 6 (20 * e + F 10 e) + G 7 (20 * e + F 10 e) = _
    rw [h6, h7, upI_self, upI_self]
  have g5 : lo_Rt G e (F 10 e) = 100000 * kd + to := by
    show 100000 * G 6 (20 * e + F 10 e) + G 8 (20 * e + F 10 e) = _
    rw [h6, h8, upI_self, upI_self]
  have g6 : lo_Rr G e (F 10 e) = rg := by
    show G 9 (20 * e + F 10 e) = _
    rw [h9, upI_self]
  unfold lo_R
  rw [h10, lo_ls_add h0 g1 g2 g3 g4 g5 g6]
/-- one more is told in the class -/
theorem lo_P_add {Ez Ez' : Nat → Nat → Int} {EF EF' : Nat → Nat → Int → Int} {e a b c : Int} (h4 : iAdd 20 (Ez ((e + 1).toNat) 4) (EF ((e + 1).toNat) 4) (Ez' ((e + 1).toNat) 4) (EF' ((e + 1).toNat) 4) a) (h5 : iAdd 20 (Ez ((e + 1).toNat) 5) (EF ((e + 1).toNat) 5) (Ez' ((e + 1).toNat) 5) (EF' ((e + 1).toNat) 5) b) (h6 : iAdd 20 (Ez ((e + 1).toNat) 6) (EF ((e + 1).toNat) 6) (Ez' ((e + 1).toNat) 6) (EF' ((e + 1).toNat) 6) c) (h0 : 0 ≤ Ez ((e + 1).toNat) 4) (hl : Ez ((e + 1).toNat) 4 < 20) (e5 : Ez ((e + 1).toNat) 4 = Ez ((e + 1).toNat) 5) (e6 : Ez ((e + 1).toNat) 5 = Ez ((e + 1).toNat) 6) : lo_P Ez' EF' e = lo_P Ez EF e ++ [(a, b, c)] ∧ Ez' ((e + 1).toNat) 4 = Ez ((e + 1).toNat) 4 + 1 ∧ Ez' ((e + 1).toNat) 5 = Ez ((e + 1).toNat) 4 + 1 ∧ Ez' ((e + 1).toNat) 6 = Ez ((e + 1).toNat) 4 + 1 := by
  obtain ⟨w4, k4⟩ := h4
  obtain ⟨w5, k5⟩ := h5
  obtain ⟨w6, k6⟩ := h6
  rw [← e6, ← e5] at w6 k6
  rw [← e5] at w5 k5
  rcases w4 with ⟨a1, -⟩ | ⟨a1, a2, a3⟩
  · omega
  rcases w5 with ⟨b1, -⟩ | ⟨b1, b2, b3⟩
  · omega
  rcases w6 with ⟨c1, -⟩ | ⟨c1, c2, c3⟩
  · omega
  refine ⟨?_, a2, b2, c2⟩
  unfold lo_P
  rw [a2]
  exact lo_ls_add h0 k4 k5 k6 a3 b3 c3
/-- one that is open gets its end -/
theorem lo_P_end {Ez Ez' : Nat → Nat → Int} {EF EF' : Nat → Nat → Int → Int} {e i t f : Int} {R : List lo_T} (h4 : Ez' ((e + 1).toNat) 4 = Ez ((e + 1).toNat) 4) (f4 : EF' ((e + 1).toNat) 4 = EF ((e + 1).toNat) 4) (f5 : EF' ((e + 1).toNat) 5 = upI (EF ((e + 1).toNat) 5) i t) (f6 : EF' ((e + 1).toNat) 6 = upI (EF ((e + 1).toNat) 6) i 1) (h0 : 0 ≤ i) (h1 : i < Ez ((e + 1).toNat) 4) (g4 : EF ((e + 1).toNat) 4 i = f) (g5 : EF ((e + 1).toNat) 5 i = f) (g6 : EF ((e + 1).toNat) 6 i = 0) (hp : (lo_P Ez EF e).Perm (R ++ [(f, f, 0)])) : (lo_P Ez' EF' e).Perm (R ++ [(f, t, 1)]) := by
  have cut : ∀ (a b c : Int → Int), lo_ls a b c (Ez ((e + 1).toNat) 4).toNat 0 = lo_ls a b c i.toNat 0 ++ (a i, b i, c i) :: lo_ls a b c (Ez ((e + 1).toNat) 4 - (i + 1)).toNat (i + 1) := fun a b c => by
    rw [show (Ez ((e + 1).toNat) 4).toNat = i.toNat + (Ez ((e + 1).toNat) 4 - i).toNat by omega, lo_ls_app, show (0 : Int) + ((i.toNat : Nat) : Int) = i by omega, lo_tl h0 h1]
  have e1 : lo_P Ez EF e = lo_ls (EF ((e + 1).toNat) 4) (EF ((e + 1).toNat) 5) (EF ((e + 1).toNat) 6) i.toNat 0 ++ (f, f, 0) :: lo_ls (EF ((e + 1).toNat) 4) (EF ((e + 1).toNat) 5) (EF ((e + 1).toNat) 6) (Ez ((e + 1).toNat) 4 - (i + 1)).toNat (i + 1) := by
    unfold lo_P
    rw [cut, g4, g5, g6]
  have e2 : lo_P Ez' EF' e = lo_ls (EF ((e + 1).toNat) 4) (EF ((e + 1).toNat) 5) (EF ((e + 1).toNat) 6) i.toNat 0 ++ (f, t, 1) :: lo_ls (EF ((e + 1).toNat) 4) (EF ((e + 1).toNat) 5) (EF ((e + 1).toNat) 6) (Ez ((e + 1).toNat) 4 - (i + 1)).toNat (i + 1) := by
    unfold lo_P
    rw [h4, cut, f4, f5, f6, g4, upI_self, upI_self]
    congr 1
    · exact lo_ls_cg _ _ _ (fun k hk => ⟨rfl, upI_ne _ _ (by omega), upI_ne _ _ (by omega)⟩)
    · congr 1
      exact lo_ls_cg _ _ _ (fun k hk => ⟨rfl, upI_ne _ _ (by omega), upI_ne _ _ (by omega)⟩)
  rw [e1] at hp
  rw [e2]
  have p1 := (List.perm_middle.symm.trans hp).trans (List.perm_middle (a := (f, f, 0)) (l₁ := R) (l₂ := []))
  have p2 := List.Perm.cons_inv p1
  rw [List.append_nil] at p2
  have p3 := List.Perm.cons (f, t, (1 : Int)) p2
  have p4 := (List.perm_middle (a := (f, t, (1 : Int))) (l₁ := R) (l₂ := ([] : List lo_T))).symm
  rw [List.append_nil] at p4
  exact (List.perm_middle.trans p3).trans p4
section PST
variable {k : Int} {n n' : Nat → Nat} {z z' : Nat → Int} {F F' : Nat → Int → Int} {N N' : Nat} {En En' : Nat → Nat → Nat} {Ez Ez' : Nat → Nat → Int} {EF EF' : Nat → Nat → Int → Int} {fo' : Nat → Int64} {I J : Nat → Int} {Fm Gm : Nat → Int → Int} {q rr : Int}
theorem lawP.keep {S2 T2 : List Nat} (h : lawP Ez EF I Fm) (he : eFr S2 T2 En Ez EF En' Ez' EF') (h2 : 4 ∉ S2 ∧ 5 ∉ S2 ∧ 6 ∉ S2 ∧ 9 ∉ S2) (h3 : 4 ∉ T2 ∧ 5 ∉ T2 ∧ 6 ∉ T2) (b1 : J 1 = I 1) (f6 : Gm 6 = Fm 6) (f7 : Gm 7 = Fm 7) (f8 : Gm 8 = Fm 8) (f9 : Gm 9 = Fm 9) (f10 : Gm 10 = Fm 10) (f11 : Gm 11 = Fm 11) : lawP Ez' EF' J Gm := by
  intro e h8 h9
  rw [b1] at h9
  rw [lo_P_fr (fun j => he.1 j 4 h2.1) (fun j => ⟨(he.2 j 4 h3.1).2, (he.2 j 5 h3.2.1).2, (he.2 j 6 h3.2.2).2⟩), lo_R_fr f6 f7 f8 f9 f10 f11, f11, he.1 _ 4 h2.1, he.1 _ 5 h2.2.1, he.1 _ 6 h2.2.2.1, he.1 _ 9 h2.2.2.2, (he.2 _ 5 h3.2.1).2, (he.2 _ 6 h3.2.2).2]
  exact h e h8 h9
theorem lawP.ask {S2 T2 : List Nat} (h : lawP Ez EF I Fm) (he : eFr S2 T2 En Ez EF En' Ez' EF') (h2 : 4 ∉ S2 ∧ 5 ∉ S2 ∧ 6 ∉ S2 ∧ 9 ∉ S2) (h3 : 4 ∉ T2 ∧ 5 ∉ T2 ∧ 6 ∉ T2) (hw : mWk I Fm J Gm) : lawP Ez' EF' J Gm :=
  h.keep he h2 h3 (hw.2.1.1 1 (by decide)) (hw.2.1.2 6 (by decide)) (hw.2.1.2 7 (by decide)) (hw.2.1.2 8 (by decide)) (hw.2.1.2 9 (by decide)) (hw.2.1.2 10 (by decide)) (hw.2.1.2 11 (by decide))
theorem lawP.H (h : lawP Ez EF I Fm) (h12 : z 12 = I 1) : lo_H (z 12) Ez EF := by
  intro e a b
  rw [h12] at b
  obtain ⟨q1, q2, q3, -⟩ := h e a b
  exact ⟨q1, fun x hx => q3 x (q2.mem_iff.mp hx)⟩
theorem lawP.v (h : lawP Ez EF I Fm) : ∀ e, 0 ≤ e → e < I 1 → ∀ x, x ∈ lo_R Fm e → lo_v x := fun e a b => (h e a b).2.2.1
theorem lawP.z9 (h : lawP Ez EF I Fm) (hR : lawR z Ez EF I Fm) {e : Int} : (0 ≤ e ∧ e < z 12) → 0 ≤ Ez ((e + 1).toNat) 9 → Ez ((e + 1).toNat) 9 < Ez ((e + 1).toNat) 5 ∧ Ez ((e + 1).toNat) 9 < Ez ((e + 1).toNat) 6 := fun a b => by
  have h12 := hR.2.1
  obtain ⟨q1, -⟩ := h e a.1 (by omega)
  have q2 := (hR.2.2.2.2 e a.1 (by omega)).2.2.2
  omega
theorem lo_K.keep {S T S2 T2 : List Nat} (h : lo_K z F Ez EF) (hx : xFr S T z F z' F') (he : eFr S2 T2 En Ez EF En' Ez' EF') (h1 : 16 ∉ S ∧ 15 ∉ S ∧ 12 ∉ S ∧ 7 ∉ S ∧ 8 ∉ S ∧ 9 ∉ S) (h2 : 7 ∉ T ∧ 8 ∉ T) (h3 : 10 ∉ S2 ∧ 4 ∉ S2) (h4 : 4 ∉ T2 ∧ 5 ∉ T2 ∧ 6 ∉ T2) : lo_K z' F' Ez' EF' :=
  h.fr (hx.1 16 h1.1) (hx.1 15 h1.2.1) (hx.1 12 h1.2.2.1) (hx.1 7 h1.2.2.2.1) (hx.1 8 h1.2.2.2.2.1) (hx.1 9 h1.2.2.2.2.2) (hx.2 7 h2.1) (hx.2 8 h2.2) (fun j => he.1 j 10 h3.1) (fun j => he.1 j 4 h3.2) (fun j => ⟨(he.2 j 4 h4.1).2, (he.2 j 5 h4.2.1).2, (he.2 j 6 h4.2.2).2⟩)
theorem lo_K.finds {S T S2 T2 : List Nat} (h : lo_K z F Ez EF) (hW : lawW z F Ez I Fm) (hI : mIk k I Fm) (hR : lawR z Ez EF I Fm) (hrk : rs_RK z' F' Ez' (Fm 2) (Fm 3) (rs_wd Fm) (kf_oc I Fm)) (c15 : z' 15 = 1) (hx : xFr S T z F z' F') (he : eFr S2 T2 En Ez EF En' Ez' EF') (h1 : 16 ∉ S ∧ 12 ∉ S ∧ 7 ∉ S ∧ 8 ∉ S ∧ 9 ∉ S) (h2 : 7 ∉ T ∧ 8 ∉ T) (h3 : 4 ∉ S2) (h4 : 4 ∉ T2 ∧ 5 ∉ T2 ∧ 6 ∉ T2) : lo_K z' F' Ez' EF' :=
  h.find hW.2.1 (by rw [hR.2.1]; exact hW.lv hI) (rs_wd_W Fm) (hrk c15) c15 (hx.1 16 h1.1) (hx.1 12 h1.2.1) (hx.1 7 h1.2.2.1) (hx.1 8 h1.2.2.2.1) (hx.1 9 h1.2.2.2.2) (hx.2 7 h2.1) (hx.2 8 h2.2) (fun j => he.1 j 4 h3) (fun j => ⟨(he.2 j 4 h4.1).2, (he.2 j 5 h4.2.1).2, (he.2 j 6 h4.2.2).2⟩)
theorem sp_style {p0 : Int}  (hI : mIk k I Fm) (hR : lawR z Ez EF I Fm) (hW : lawW z F Ez I Fm) (hV : lawP Ez EF I Fm) (hC : lo_K z F Ez EF) (hc : N' = N ∧ ((q = 0 ∧ xFr [3] [3] z F z' F' ∧ eFr [] [] En Ez EF En' Ez' EF' ∧ ∃ v : Int, fo' 0 = Int32.toInt64 (iz v) ∧ ((0 ≤ p0 ∧ p0 ≤ 127) ∧ ((p0 = 0 ∧ v = 0 ∧ z' 3 = 0) ∨ (0 < p0 ∧ v = z 3 + 1 ∧ z' 3 = z 3 + 1)))) ∨ ((xFr [] [] z F z' F' ∧ eFr [] [] En Ez EF En' Ez' EF') ∧ ((q = 1 ∧ (p0 < 0 ∨ 127 < p0)) ∨ (q = 2 ∧ (80 ≤ z 3)))))) (hm : (rr = 0 ∧ Gm = Fm ∧ J = va_up I 0 1 ∧ (p0 < 0 ∨ 127 < p0)) ∨ (rr = 0 ∧ Gm = Fm ∧ J = va_up (va_up I 0 0) 37 0 ∧ p0 = 0) ∨ (Gm = va_up Fm 36 (upI (Fm 36) (I 37) p0) ∧ J = va_up (va_up I 0 0) 37 (I 37 + 1) ∧ rr = I 37 + 1 ∧ 0 < p0 ∧ p0 ≤ 127)) : lawP Ez' EF' J Gm ∧ lo_K z' F' Ez' EF' := by
  obtain ⟨hN, hc⟩ := hc
  have h : (xFr [3] [3] z F z' F' ∧ eFr [] [] En Ez EF En' Ez' EF') ∨ (xFr [] [] z F z' F' ∧ eFr [] [] En Ez EF En' Ez' EF') := by
    rcases hc with ⟨-, h1, h2, -⟩ | ⟨h1, -⟩
    · exact Or.inl ⟨h1, h2⟩
    · exact Or.inr h1
  rcases h with ⟨hx, he⟩ | ⟨hx, he⟩
  · refine ⟨?_, hC.keep hx he (by decide) (by decide) (by decide) (by decide)⟩
    rcases hm with ⟨m1, rfl, rfl, m2⟩ | ⟨m1, rfl, rfl, m2⟩ | ⟨rfl, rfl, m1, m2, m3⟩ <;> exact hV.keep he (by decide) (by decide) rfl rfl rfl rfl rfl rfl rfl
  · refine ⟨?_, hC.keep hx he (by decide) (by decide) (by decide) (by decide)⟩
    rcases hm with ⟨m1, rfl, rfl, m2⟩ | ⟨m1, rfl, rfl, m2⟩ | ⟨rfl, rfl, m1, m2, m3⟩ <;> exact hV.keep he (by decide) (by decide) rfl rfl rfl rfl rfl rfl rfl
theorem sp_see {p0 p1 : Int}  (hI : mIk k I Fm) (hR : lawR z Ez EF I Fm) (hW : lawW z F Ez I Fm) (hV : lawP Ez EF I Fm) (hC : lo_K z F Ez EF) (hc : N' = N ∧ ((q = 0 ∧ xFr [] [] z F z' F' ∧ eFr [3] [3] En Ez EF En' Ez' EF' ∧ ∃ v : Int, fo' 0 = Int32.toInt64 (iz v) ∧ ((v = 0 ∧ ¬ ((0 ≤ p0 ∧ p0 < z 12) ∧ (0 ≤ p1 ∧ p1 < z 12) ∧ Ez ((p0 + 1).toNat) 3 < 5 ∧ ¬ p0 = p1 ∧ ∀ i, 0 ≤ i → i < Ez ((p0 + 1).toNat) 3 → ¬ EF ((p0 + 1).toNat) 3 i = p1) ∧ ∀ j, Ez' j = Ez j ∧ EF' j = EF j) ∨ (v = 1 ∧ ((0 ≤ p0 ∧ p0 < z 12) ∧ (0 ≤ p1 ∧ p1 < z 12) ∧ Ez ((p0 + 1).toNat) 3 < 5 ∧ ¬ p0 = p1 ∧ ∀ i, 0 ≤ i → i < Ez ((p0 + 1).toNat) 3 → ¬ EF ((p0 + 1).toNat) 3 i = p1) ∧ iAdd 5 (Ez ((p0 + 1).toNat) 3) (EF ((p0 + 1).toNat) 3) (Ez' ((p0 + 1).toNat) 3) (EF' ((p0 + 1).toNat) 3) p1 ∧ (∀ j, j ≠ ((p0 + 1).toNat) → Ez' j = Ez j ∧ EF' j = EF j)))) ∨ ((xFr [] [] z F z' F' ∧ eFr [] [] En Ez EF En' Ez' EF') ∧ ((q = 1 ∧ (¬ ((0 ≤ p0 ∧ p0 < z 12) ∧ (0 ≤ p1 ∧ p1 < z 12)))) ∨ (q = 2 ∧ ((0 ≤ p0 ∧ p0 < z 12) ∧ (0 ≤ p1 ∧ p1 < z 12) ∧ 5 ≤ Ez ((p0 + 1).toNat) 3)))))) (hm : (rr = 0 ∧ Gm = Fm ∧ J = va_up I 0 1 ∧ ¬ wr_ad (I 1) Fm p0 p1) ∨ (rr = 0 ∧ Gm = Fm ∧ J = va_up I 0 2 ∧ ¬ wr_ad (I 1) Fm p0 p1) ∨ (rr = 0 ∧ Gm = Fm ∧ J = va_up I 0 0 ∧ ¬ wr_ad (I 1) Fm p0 p1) ∨ (rr = 1 ∧ J = va_up I 0 0 ∧ Gm = va_up (va_up Fm 12 (upI (Fm 12) (5 * p0 + Fm 13 p0) p1)) 13 (upI (Fm 13) p0 (Fm 13 p0 + 1)) ∧ wr_ad (I 1) Fm p0 p1)) : lawP Ez' EF' J Gm ∧ lo_K z' F' Ez' EF' := by
  obtain ⟨hN, hc⟩ := hc
  have h : (xFr [] [] z F z' F' ∧ eFr [3] [3] En Ez EF En' Ez' EF') ∨ (xFr [] [] z F z' F' ∧ eFr [] [] En Ez EF En' Ez' EF') := by
    rcases hc with ⟨-, h1, h2, -⟩ | ⟨h1, -⟩
    · exact Or.inl ⟨h1, h2⟩
    · exact Or.inr h1
  rcases h with ⟨hx, he⟩ | ⟨hx, he⟩
  · refine ⟨?_, hC.keep hx he (by decide) (by decide) (by decide) (by decide)⟩
    rcases hm with ⟨a, rfl, rfl, -⟩ | ⟨a, rfl, rfl, -⟩ | ⟨a, rfl, rfl, -⟩ | ⟨a, rfl, rfl, d⟩ <;> exact hV.keep he (by decide) (by decide) rfl rfl rfl rfl rfl rfl rfl
  · refine ⟨?_, hC.keep hx he (by decide) (by decide) (by decide) (by decide)⟩
    rcases hm with ⟨a, rfl, rfl, -⟩ | ⟨a, rfl, rfl, -⟩ | ⟨a, rfl, rfl, -⟩ | ⟨a, rfl, rfl, d⟩ <;> exact hV.keep he (by decide) (by decide) rfl rfl rfl rfl rfl rfl rfl
theorem sp_sign {p0 p1 : Int}  (hI : mIk k I Fm) (hR : lawR z Ez EF I Fm) (hW : lawW z F Ez I Fm) (hV : lawP Ez EF I Fm) (hC : lo_K z F Ez EF) (hc : N' = N ∧ ((q = 0 ∧ xFr [15, 16] [] z F z' F' ∧ eFr [0, 1, 2] [0, 1, 2] En Ez EF En' Ez' EF' ∧ ∃ v : Int, fo' 0 = Int32.toInt64 (iz v) ∧ (((((0 ≤ p0 ∧ p0 < z 12) ∧ (0 ≤ p1 ∧ p1 ≤ 255) ∧ Ez ((p0 + 1).toNat) 0 < 20 ∧ v = Ez ((p0 + 1).toNat) 0 + 1 ∧ Ez' ((p0 + 1).toNat) 0 = Ez ((p0 + 1).toNat) 0 + 1 ∧ (∀ j, j ≠ ((p0 + 1).toNat) → Ez' j = Ez j ∧ EF' j = EF j)) ∧ (iAdd 20 (Ez ((p0 + 1).toNat) 0) (EF ((p0 + 1).toNat) 0) (Ez' ((p0 + 1).toNat) 0) (EF' ((p0 + 1).toNat) 0) p1 ∧ iAdd 20 (Ez ((p0 + 1).toNat) 1) (EF ((p0 + 1).toNat) 1) (Ez' ((p0 + 1).toNat) 1) (EF' ((p0 + 1).toNat) 1) (kf_rk p1) ∧ kf_ls (EF' ((p0 + 1).toNat) 2) 0 (Ez' ((p0 + 1).toNat) 2).toNat = kf_kI (EF' ((p0 + 1).toNat) 0) (Ez' ((p0 + 1).toNat) 0) (z 13) (z 14) 0 0 0)) ∧ z' 15 = 0) ∧ z' 16 = -1)) ∨ ((xFr [] [] z F z' F' ∧ eFr [] [] En Ez EF En' Ez' EF') ∧ ((q = 1 ∧ (¬ (0 ≤ p0 ∧ p0 < z 12))) ∨ (q = 2 ∧ ((0 ≤ p0 ∧ p0 < z 12) ∧ (p1 < 0 ∨ 255 < p1))) ∨ (q = 3 ∧ ((0 ≤ p0 ∧ p0 < z 12) ∧ (0 ≤ p1 ∧ p1 ≤ 255) ∧ 20 ≤ Ez ((p0 + 1).toNat) 0)))))) (hm : (rr = 0 ∧ Gm = Fm ∧ J = va_up I 0 1 ∧ (p0 < 0 ∨ I 1 ≤ p0)) ∨ (rr = 0 ∧ Gm = Fm ∧ J = va_up I 0 2 ∧ (0 ≤ p0 ∧ p0 < I 1) ∧ (p1 < 0 ∨ 255 < p1)) ∨ (rr = 0 ∧ Gm = Fm ∧ J = va_up I 0 3 ∧ (0 ≤ p0 ∧ p0 < I 1) ∧ (0 ≤ p1 ∧ p1 ≤ 255) ∧ Fm 5 p0 = 20) ∨ (J = va_up (va_up I 0 0) 16 0 ∧ Gm = va_up (va_up Fm 4 (upI (Fm 4) (20 * p0 + Fm 5 p0) p1)) 5 (upI (Fm 5) p0 (Fm 5 p0 + 1)) ∧ rr = Fm 5 p0 + 1 ∧ (0 ≤ p0 ∧ p0 < I 1) ∧ (0 ≤ p1 ∧ p1 ≤ 255) ∧ ¬ Fm 5 p0 = 20)) : lawP Ez' EF' J Gm ∧ lo_K z' F' Ez' EF' := by
  obtain ⟨hN, hc⟩ := hc
  rcases hc with ⟨c1, hx, he, v, c2, c3, c4⟩ | ⟨⟨hx, he⟩, -⟩
  · refine ⟨?_, by exact Or.inl c4⟩
    rcases hm with ⟨m1, rfl, rfl, m2⟩ | ⟨m1, rfl, rfl, m2, m3⟩ | ⟨m1, rfl, rfl, m2, m3, m4⟩ | ⟨rfl, rfl, m1, m2, m3, m4⟩ <;> exact hV.keep he (by decide) (by decide) rfl rfl rfl rfl rfl rfl rfl
  · refine ⟨?_, hC.keep hx he (by decide) (by decide) (by decide) (by decide)⟩
    rcases hm with ⟨m1, rfl, rfl, m2⟩ | ⟨m1, rfl, rfl, m2, m3⟩ | ⟨m1, rfl, rfl, m2, m3, m4⟩ | ⟨rfl, rfl, m1, m2, m3, m4⟩ <;> exact hV.keep he (by decide) (by decide) rfl rfl rfl rfl rfl rfl rfl
theorem sp_rule {p0 p1 : Int}  (hI : mIk k I Fm) (hR : lawR z Ez EF I Fm) (hW : lawW z F Ez I Fm) (hV : lawP Ez EF I Fm) (hC : lo_K z F Ez EF) (hc : N' = N ∧ ((q = 0 ∧ xFr [13, 14, 15, 16] [] z F z' F' ∧ eFr [2] [2] En Ez EF En' Ez' EF' ∧ ∃ v : Int, fo' 0 = Int32.toInt64 (iz v) ∧ (((((p0 = 0 ∧ v = z 13 ∧ z' 13 = p1 ∧ z' 14 = z 14) ∨ (p0 = 1 ∧ v = z 14 ∧ z' 14 = p1 ∧ z' 13 = z 13)) ∧ ((z' 13 = z 13 ∧ z' 14 = z 14 ∧ ∀ j, Ez' j = Ez j ∧ EF' j = EF j) ∨ (∀ j : Nat, 1 ≤ j → (j : Int) ≤ z 12 → kf_ls (EF' j 2) 0 (Ez' j 2).toNat = kf_kI (EF j 0) (Ez j 0) (z' 13) (z' 14) 0 0 0))) ∧ (z' 15 = 0 ∨ ((z' 15 = z 15 ∧ z' 13 = z 13 ∧ z' 14 = z 14 ∧ z' 1 = z 1) ∧ F' 1 = F 1 ∧ ∀ j, Ez' j = Ez j))) ∧ (z' 16 = -1 ∨ (z' 16 = z 16 ∧ z' 15 = z 15)))) ∨ ((xFr [] [] z F z' F' ∧ eFr [] [] En Ez EF En' Ez' EF') ∧ ((q = 1 ∧ (¬ p0 = 0 ∧ ¬ p0 = 1)))))) (hm : (rr = 0 ∧ Gm = Fm ∧ J = va_up I 0 1 ∧ ¬ p0 = 0 ∧ ¬ p0 = 1) ∨ (Gm = Fm ∧ p0 = 0 ∧ rr = I 14 ∧ J = va_up (va_up (va_up (va_up I 0 0) 14 p1) 15 (I 15)) 16 0) ∨ (Gm = Fm ∧ p0 = 1 ∧ rr = I 15 ∧ J = va_up (va_up (va_up (va_up I 0 0) 14 (I 14)) 15 p1) 16 0)) : lawP Ez' EF' J Gm ∧ lo_K z' F' Ez' EF' := by
  obtain ⟨hN, hc⟩ := hc
  rcases hc with ⟨c1, hx, he, v, c2, c3, c4⟩ | ⟨⟨hx, he⟩, -⟩
  · refine ⟨?_, by rcases c4 with c4 | ⟨c4, c5⟩; exact Or.inl c4; exact hC.fr c4 c5 (hx.1 12 (by decide)) (hx.1 7 (by decide)) (hx.1 8 (by decide)) (hx.1 9 (by decide)) (hx.2 7 (by decide)) (hx.2 8 (by decide)) (fun j => he.1 j 10 (by decide)) (fun j => he.1 j 4 (by decide)) (fun j => ⟨(he.2 j 4 (by decide)).2, (he.2 j 5 (by decide)).2, (he.2 j 6 (by decide)).2⟩)⟩
    rcases hm with ⟨m1, rfl, rfl, m2, m3⟩ | ⟨rfl, m1, m2, rfl⟩ | ⟨rfl, m1, m2, rfl⟩ <;> exact hV.keep he (by decide) (by decide) rfl rfl rfl rfl rfl rfl rfl
  · refine ⟨?_, hC.keep hx he (by decide) (by decide) (by decide) (by decide)⟩
    rcases hm with ⟨m1, rfl, rfl, m2, m3⟩ | ⟨rfl, m1, m2, rfl⟩ | ⟨rfl, m1, m2, rfl⟩ <;> exact hV.keep he (by decide) (by decide) rfl rfl rfl rfl rfl rfl rfl
theorem sp_entry {p0 p1 : Int}  (hI : mIk k I Fm) (hR : lawR z Ez EF I Fm) (hW : lawW z F Ez I Fm) (hV : lawP Ez EF I Fm) (hC : lo_K z F Ez EF) (hN3 : (N : Int) = z 12 + 1) (g1 : J 0 = q) (hc : (q = 0 ∧ ∃ v : Int, fo' 0 = Int32.toInt64 (iz v) ∧ N' = N + 1 ∧ xFr [12, 15, 16] [] z F z' F' ∧ v = z 12 ∧ z' 12 = z 12 + 1 ∧ ((p0 = 0 ∧ p1 = -1) ∨ ((p0 = 1 ∨ p0 = 2) ∧ 0 ≤ p1 ∧ p1 < z 12 ∧ Ez ((p1 + 1).toNat) 7 = p0 - 1)) ∧ (∀ j, j < N → Ez' j = Ez j ∧ EF' j = EF j) ∧ Ez' N 7 = p0 ∧ Ez' N 0 = 0 ∧ Ez' N 4 = 0 ∧ Ez' N 9 = -1 ∧ Ez' N 1 = 0 ∧ Ez' N 2 = 0 ∧ Ez' N 3 = 0 ∧ Ez' N 8 = p1 ∧ Ez' N 5 = 0 ∧ Ez' N 6 = 0 ∧ z' 15 = 0 ∧ z' 16 = -1) ∨ ((N' = N ∧ xFr [] [] z F z' F' ∧ eFr [] [] En Ez EF En' Ez' EF' ∧ z' 12 = z 12) ∧ ((q = 1 ∧ (¬ p1 = -1 ∧ ¬ (0 ≤ p1 ∧ p1 < z 12))) ∨ (q = 2 ∧ ((p1 = -1 ∨ (0 ≤ p1 ∧ p1 < z 12)) ∧ ¬ ((p0 = 0 ∧ p1 = -1) ∨ ((p0 = 1 ∨ p0 = 2) ∧ 0 ≤ p1 ∧ p1 < z 12 ∧ Ez ((p1 + 1).toNat) 7 = p0 - 1))))))) (hm : (rr = 0 ∧ Gm = Fm ∧ J = va_up I 0 1 ∧ ¬ p1 = -1 ∧ (p1 < 0 ∨ I 1 ≤ p1)) ∨ (rr = 0 ∧ Gm = Fm ∧ J = va_up I 0 2 ∧ (p1 = -1 ∨ (0 ≤ p1 ∧ p1 < I 1)) ∧ ¬ ((p0 = 0 ∧ p1 = -1) ∨ ((p0 = 1 ∨ p0 = 2) ∧ 0 ≤ p1 ∧ p1 < I 1 ∧ Fm 2 p1 = p0 - 1))) ∨ (J = va_up (va_up (va_up I 0 0) 16 0) 1 (I 1 + 1) ∧ Gm = va_up (va_up Fm 2 (upI (Fm 2) (I 1) p0)) 3 (upI (Fm 3) (I 1) p1) ∧ rr = I 1 ∧ ((p0 = 0 ∧ p1 = -1) ∨ ((p0 = 1 ∨ p0 = 2) ∧ 0 ≤ p1 ∧ p1 < I 1 ∧ Fm 2 p1 = p0 - 1)))) : lawP Ez' EF' J Gm ∧ lo_K z' F' Ez' EF' := by
  have hz12 := hR.2.1
  have hc1 := hI.1.hc
  rcases hc with ⟨c1, v, c2, e1, hx, e2, e3, e4, hel, e5, e6, e7, e8, x1, x2, x3, x4, y5, y6, x5, x16⟩ | ⟨⟨hN, hx, he, hz⟩, c3⟩
  · rcases hm with ⟨m1, rfl, rfl, m2, m3⟩ | ⟨m1, rfl, rfl, m2, m3⟩ | ⟨rfl, rfl, m1, m2⟩
    · exact absurd (show (1 : Int) = q from g1) (by omega)
    · exact absurd (show (2 : Int) = q from g1) (by omega)
    · refine ⟨fun e h8 h9 => ?_, Or.inl x16⟩
      have h9' : e < I 1 + 1 := h9
      have hR9 : lo_R (va_up (va_up Fm 2 (upI (Fm 2) (I 1) p0)) 3 (upI (Fm 3) (I 1) p1)) e = lo_R Fm e := lo_R_fr rfl rfl rfl rfl rfl rfl
      rw [hR9]
      by_cases c : e = I 1
      · subst c
        have hj : (I 1 + 1).toNat = N := by omega
        have hf0 := hI.2.2.1 (I 1) (Int.le_refl _)
        have hR0 : lo_R Fm (I 1) = [] := by
          unfold lo_R
          rw [hf0.2.1, lo_Ro_0 (by rw [hf0.2.2.1]; decide)]
          rfl
        rw [hR0, hj]
        refine ⟨by omega, ?_, fun x hx => absurd hx List.not_mem_nil, fun h7 => absurd (show 0 < Fm 11 (I 1) from h7) (by rw [hf0.2.2.1]; decide)⟩
        have hP0 : lo_P Ez' EF' (I 1) = [] := by
          unfold lo_P
          rw [hj, e7]
          rfl
        rw [hP0]
      · have hj : (e + 1).toNat < N := by omega
        obtain ⟨y1, y2⟩ := hel _ hj
        have hP0 : lo_P Ez' EF' e = lo_P Ez EF e := by
          unfold lo_P
          rw [y1, y2]
        rw [hP0, y1, y2]
        exact hV e h8 (by omega)
  · have hq0 : ¬ q = 0 := by rcases c3 with ⟨c1, -⟩ | ⟨c1, -⟩ <;> omega
    rcases hm with ⟨m1, rfl, rfl, m2, m3⟩ | ⟨m1, rfl, rfl, m2, m3⟩ | ⟨rfl, rfl, m1, m2⟩
    · exact ⟨hV.keep he (by decide) (by decide) rfl rfl rfl rfl rfl rfl rfl, hC.keep hx he (by decide) (by decide) (by decide) (by decide)⟩
    · exact ⟨hV.keep he (by decide) (by decide) rfl rfl rfl rfl rfl rfl rfl, hC.keep hx he (by decide) (by decide) (by decide) (by decide)⟩
    · exact absurd (show (0 : Int) = q from g1).symm hq0
theorem sp_page {p0 p1 p2 : Int}  (hI : mIk k I Fm) (hR : lawR z Ez EF I Fm) (hW : lawW z F Ez I Fm) (hV : lawP Ez EF I Fm) (hC : lo_K z F Ez EF) (g1 : J 0 = q) (hc : N' = N ∧ ((q = 0 ∧ xFr [16] [] z F z' F' ∧ eFr [4, 5, 6] [4, 5, 6] En Ez EF En' Ez' EF' ∧ ∃ v : Int, fo' 0 = Int32.toInt64 (iz v) ∧ (((0 ≤ p0 ∧ p0 < z 12) ∧ (1 ≤ p2 ∧ ((p1 = 0 ∧ p2 ≤ 3999) ∨ (p1 = 1 ∧ p2 ≤ 99999) ∨ (p1 = 2 ∧ p2 ≤ 702))) ∧ Ez ((p0 + 1).toNat) 4 < 20 ∧ v = Ez ((p0 + 1).toNat) 4 + 1 ∧ Ez' ((p0 + 1).toNat) 4 = Ez ((p0 + 1).toNat) 4 + 1 ∧ (∀ i, 0 ≤ i → i < Ez ((p0 + 1).toNat) 4 → EF' ((p0 + 1).toNat) 4 i = EF ((p0 + 1).toNat) 4 i) ∧ (∀ j, j ≠ ((p0 + 1).toNat) → Ez' j = Ez j ∧ EF' j = EF j)) ∧ (iAdd 20 (Ez ((p0 + 1).toNat) 4) (EF ((p0 + 1).toNat) 4) (Ez' ((p0 + 1).toNat) 4) (EF' ((p0 + 1).toNat) 4) (p1 * 100000 + p2) ∧ iAdd 20 (Ez ((p0 + 1).toNat) 5) (EF ((p0 + 1).toNat) 5) (Ez' ((p0 + 1).toNat) 5) (EF' ((p0 + 1).toNat) 5) (p1 * 100000 + p2) ∧ iAdd 20 (Ez ((p0 + 1).toNat) 6) (EF ((p0 + 1).toNat) 6) (Ez' ((p0 + 1).toNat) 6) (EF' ((p0 + 1).toNat) 6) 0) ∧ z' 16 = -1)) ∨ ((xFr [] [] z F z' F' ∧ eFr [] [] En Ez EF En' Ez' EF') ∧ ((q = 1 ∧ (¬ (0 ≤ p0 ∧ p0 < z 12))) ∨ (q = 2 ∧ ((0 ≤ p0 ∧ p0 < z 12) ∧ ¬ (1 ≤ p2 ∧ ((p1 = 0 ∧ p2 ≤ 3999) ∨ (p1 = 1 ∧ p2 ≤ 99999) ∨ (p1 = 2 ∧ p2 ≤ 702))))) ∨ (q = 3 ∧ ((0 ≤ p0 ∧ p0 < z 12) ∧ (1 ≤ p2 ∧ ((p1 = 0 ∧ p2 ≤ 3999) ∨ (p1 = 1 ∧ p2 ≤ 99999) ∨ (p1 = 2 ∧ p2 ≤ 702))) ∧ 20 ≤ Ez ((p0 + 1).toNat) 4)))))) (hm : (rr = 0 ∧ Gm = Fm ∧ J = va_up I 0 1 ∧ (p0 < 0 ∨ I 1 ≤ p0)) ∨ (rr = 0 ∧ Gm = Fm ∧ J = va_up I 0 2 ∧ (0 ≤ p0 ∧ p0 < I 1) ∧ ¬ (1 ≤ p2 ∧ ((p1 = 0 ∧ p2 ≤ 3999) ∨ (p1 = 1 ∧ p2 ≤ 99999) ∨ (p1 = 2 ∧ p2 ≤ 702)))) ∨ (rr = 0 ∧ Gm = Fm ∧ J = va_up I 0 3 ∧ (0 ≤ p0 ∧ p0 < I 1) ∧ (1 ≤ p2 ∧ ((p1 = 0 ∧ p2 ≤ 3999) ∨ (p1 = 1 ∧ p2 ≤ 99999) ∨ (p1 = 2 ∧ p2 ≤ 702))) ∧ Fm 10 p0 + (if 0 < Fm 11 p0 then 1 else 0) = 20) ∨ (J = va_up I 0 0 ∧ Gm = va_up (va_up (va_up (va_up (va_up Fm 6 (upI (Fm 6) (20 * p0 + Fm 10 p0) p1)) 7 (upI (Fm 7) (20 * p0 + Fm 10 p0) p2)) 8 (upI (Fm 8) (20 * p0 + Fm 10 p0) p2)) 9 (upI (Fm 9) (20 * p0 + Fm 10 p0) (vp_nar .boolean (iz 0)).toInt)) 10 (upI (Fm 10) p0 (Fm 10 p0 + 1)) ∧ rr = Fm 10 p0 + (if 0 < Fm 11 p0 then 1 else 0) + 1 ∧ (0 ≤ p0 ∧ p0 < I 1) ∧ (1 ≤ p2 ∧ ((p1 = 0 ∧ p2 ≤ 3999) ∨ (p1 = 1 ∧ p2 ≤ 99999) ∨ (p1 = 2 ∧ p2 ≤ 702))) ∧ ¬ Fm 10 p0 + (if 0 < Fm 11 p0 then 1 else 0) = 20)) : lawP Ez' EF' J Gm ∧ lo_K z' F' Ez' EF' := by
  have h12 := hR.2.1
  obtain ⟨hN, hc⟩ := hc
  rcases hc with ⟨c1, hx, he, v, c2, ⟨d1, d2, d3, d4, d5, d6, oth⟩, ⟨a4, a5, a6⟩, c16⟩ | ⟨⟨hx, he⟩, c3⟩
  · rcases hm with ⟨m1, rfl, rfl, m2⟩ | ⟨m1, rfl, rfl, m2, m3⟩ | ⟨m1, rfl, rfl, m2, m3, m4⟩ | ⟨rfl, eG, m1, m2, m3, m4⟩
    · exact absurd (show (1 : Int) = q from g1) (by omega)
    · exact absurd (show (2 : Int) = q from g1) (by omega)
    · exact absurd (show (3 : Int) = q from g1) (by omega)
    refine ⟨?_, Or.inl c16⟩
    have h6 : Gm 6 = upI (Fm 6) (20 * p0 + Fm 10 p0) p1 := by rw [eG]; rfl
    have h7 : Gm 7 = upI (Fm 7) (20 * p0 + Fm 10 p0) p2 := by rw [eG]; rfl
    have h8' : Gm 8 = upI (Fm 8) (20 * p0 + Fm 10 p0) p2 := by rw [eG]; rfl
    have h9r : Gm 9 = upI (Fm 9) (20 * p0 + Fm 10 p0) ((vp_nar .boolean (iz 0)).toInt) := by rw [eG]; rfl
    have h10 : Gm 10 = upI (Fm 10) p0 (Fm 10 p0 + 1) := by rw [eG]; rfl
    have h11 : Gm 11 = Fm 11 := by rw [eG]; rfl
    rw [lo_bz (x := 0) (Or.inl rfl)] at h9r
    clear eG
    intro e h8 h9
    have h9' : e < I 1 := h9
    have hl0 := hI.1.hln p0
    have hle := hI.1.hln e
    by_cases c : e = p0
    · subst c
      obtain ⟨q1, q2, q3, q4⟩ := hV e h8 h9'
      have q5 := (hR.2.2.2.2 e h8 h9').2.2.2
      have q6 := (hR.2.2.2.2 e h8 h9').2.2.1
      have hz4 : 0 ≤ Ez ((e + 1).toNat) 4 := by rw [q6]; split <;> omega
      obtain ⟨hPa, z4, z5, z6⟩ := lo_P_add a4 a5 a6 hz4 d3 q1.1 q1.2
      have hRa := lo_R_add (F := Fm) (G := Gm) (kd := p1) (fr := p2) (to := p2) (rg := 0) hl0.1 h6 h7 h8' h9r (by rw [h10, upI_self])
      have hRo : lo_Ro Gm e = lo_Ro Fm e := by unfold lo_Ro; rw [h11]
      have hx1 : p1 * 100000 + p2 = 100000 * p1 + p2 := by omega
      rw [hRo] at hRa
      rw [hx1] at hPa
      refine ⟨by omega, ?_, ?_, ?_⟩
      · rw [hPa, hRa]
        exact (List.Perm.append_right _ q2).trans (lo_perm3 _).symm
      · rw [hRa]
        intro x hx
        rcases List.mem_append.mp hx with hx | hx
        · rcases List.mem_append.mp hx with hx | hx
          · exact q3 x (List.mem_append.mpr (Or.inl hx))
          · rw [List.mem_singleton.mp hx]
            exact ⟨Or.inr ⟨rfl, rfl⟩, Int.le_refl _, (show 1 ≤ (100000 * p1 + p2) % 100000 by omega), rfl, (show 0 ≤ 100000 * p1 + p2 by omega), (show 100000 * p1 + p2 < 300000 by omega), (show 100000 * p1 + p2 < 100000 → 100000 * p1 + p2 ≤ 3999 by omega), (show 200000 ≤ 100000 * p1 + p2 → 100000 * p1 + p2 ≤ 200702 by omega)⟩
        · exact q3 x (List.mem_append.mpr (Or.inr hx))
      · rw [h11]
        intro h7'
        have e9 : Ez' ((e + 1).toNat) 9 = Ez ((e + 1).toNat) 9 := he.1 _ 9 (by decide)
        rw [e9, a5.2 _ (by omega) (by omega), a6.2 _ (by omega) (by omega)]
        exact q4 h7'
    · obtain ⟨x1, x2⟩ := oth _ (show (e + 1).toNat ≠ (p0 + 1).toNat by omega)
      have hP0 : lo_P Ez' EF' e = lo_P Ez EF e := by
        unfold lo_P
        rw [x1, x2]
      have hR0 : lo_R Gm e = lo_R Fm e := lo_R_ne (p := p0) (m := Fm 10 p0) (fun i hi => by rw [h6, upI_ne _ _ hi]) (fun i hi => by rw [h7, upI_ne _ _ hi]) (fun i hi => by rw [h8', upI_ne _ _ hi]) (fun i hi => by rw [h9r, upI_ne _ _ hi]) (by rw [h10, upI_ne _ _ c]) (by rw [h11]) (by split at m4 <;> omega) (by split at hle <;> omega) (Or.inl c)
      rw [hP0, x1, x2, hR0, h11]
      exact hV e h8 h9'
  · have hq0 : ¬ q = 0 := by rcases c3 with ⟨c1, -⟩ | ⟨c1, -⟩ | ⟨c1, -⟩ <;> omega
    rcases hm with ⟨m1, rfl, rfl, m2⟩ | ⟨m1, rfl, rfl, m2, m3⟩ | ⟨m1, rfl, rfl, m2, m3, m4⟩ | ⟨rfl, rfl, m1, m2, m3, m4⟩
    · exact ⟨hV.keep he (by decide) (by decide) rfl rfl rfl rfl rfl rfl rfl, hC.keep hx he (by decide) (by decide) (by decide) (by decide)⟩
    · exact ⟨hV.keep he (by decide) (by decide) rfl rfl rfl rfl rfl rfl rfl, hC.keep hx he (by decide) (by decide) (by decide) (by decide)⟩
    · exact ⟨hV.keep he (by decide) (by decide) rfl rfl rfl rfl rfl rfl rfl, hC.keep hx he (by decide) (by decide) (by decide) (by decide)⟩
    · exact absurd (show (0 : Int) = q from g1).symm hq0
theorem sp_range {p0 p1 p2 : Int}  (hI : mIk k I Fm) (hR : lawR z Ez EF I Fm) (hW : lawW z F Ez I Fm) (hV : lawP Ez EF I Fm) (hC : lo_K z F Ez EF) (hp2 : p2 = 0 ∨ p2 = 1) (g1 : J 0 = q) (hc : N' = N ∧ ((q = 0 ∧ xFr [16] [] z F z' F' ∧ eFr [4, 5, 6, 9] [4, 5, 6] En Ez EF En' Ez' EF' ∧ ∃ v : Int, fo' 0 = Int32.toInt64 (iz v) ∧ (((0 ≤ p0 ∧ p0 < z 12) ∧ (1 ≤ p1 ∧ p1 ≤ 99999) ∧ ((p2 = 0 ∧ 0 ≤ Ez ((p0 + 1).toNat) 9 ∧ v = 0 ∧ Ez' ((p0 + 1).toNat) 9 = Ez ((p0 + 1).toNat) 9 ∧ Ez' ((p0 + 1).toNat) 4 = Ez ((p0 + 1).toNat) 4 ∧ EF' ((p0 + 1).toNat) 4 = EF ((p0 + 1).toNat) 4) ∨ (p2 = 0 ∧ Ez ((p0 + 1).toNat) 9 < 0 ∧ Ez ((p0 + 1).toNat) 4 < 20 ∧ v = 1 ∧ Ez' ((p0 + 1).toNat) 9 = Ez ((p0 + 1).toNat) 4 ∧ Ez' ((p0 + 1).toNat) 4 = Ez ((p0 + 1).toNat) 4 + 1 ∧ EF' ((p0 + 1).toNat) 4 (Ez ((p0 + 1).toNat) 4) = 100000 + p1) ∨ (¬ p2 = 0 ∧ v = 0 ∧ Ez' ((p0 + 1).toNat) 9 = Ez ((p0 + 1).toNat) 9 ∧ Ez' ((p0 + 1).toNat) 4 = Ez ((p0 + 1).toNat) 4 ∧ EF' ((p0 + 1).toNat) 4 = EF ((p0 + 1).toNat) 4 ∧ (0 ≤ Ez ((p0 + 1).toNat) 9 → Ez ((p0 + 1).toNat) 9 < Ez ((p0 + 1).toNat) 4 → 100000 + p1 < EF ((p0 + 1).toNat) 4 (Ez ((p0 + 1).toNat) 9))) ∨ (¬ p2 = 0 ∧ v = 1 ∧ 0 ≤ Ez ((p0 + 1).toNat) 9 ∧ (Ez ((p0 + 1).toNat) 9 < Ez ((p0 + 1).toNat) 4 → EF ((p0 + 1).toNat) 4 (Ez ((p0 + 1).toNat) 9) ≤ 100000 + p1) ∧ Ez' ((p0 + 1).toNat) 9 = -1 ∧ Ez' ((p0 + 1).toNat) 4 = Ez ((p0 + 1).toNat) 4 ∧ EF' ((p0 + 1).toNat) 4 = EF ((p0 + 1).toNat) 4)) ∧ (∀ j, j ≠ ((p0 + 1).toNat) → Ez' j = Ez j ∧ EF' j = EF j)) ∧ ((v = 0 ∧ z' 16 = z 16 ∧ Ez' ((p0 + 1).toNat) 4 = Ez ((p0 + 1).toNat) 4 ∧ EF' ((p0 + 1).toNat) 4 = EF ((p0 + 1).toNat) 4 ∧ Ez' ((p0 + 1).toNat) 5 = Ez ((p0 + 1).toNat) 5 ∧ EF' ((p0 + 1).toNat) 5 = EF ((p0 + 1).toNat) 5 ∧ Ez' ((p0 + 1).toNat) 6 = Ez ((p0 + 1).toNat) 6 ∧ EF' ((p0 + 1).toNat) 6 = EF ((p0 + 1).toNat) 6) ∨ (v = 1 ∧ z' 16 = -1 ∧ p2 = 0 ∧ (iAdd 20 (Ez ((p0 + 1).toNat) 4) (EF ((p0 + 1).toNat) 4) (Ez' ((p0 + 1).toNat) 4) (EF' ((p0 + 1).toNat) 4) (100000 + p1) ∧ iAdd 20 (Ez ((p0 + 1).toNat) 5) (EF ((p0 + 1).toNat) 5) (Ez' ((p0 + 1).toNat) 5) (EF' ((p0 + 1).toNat) 5) (100000 + p1) ∧ iAdd 20 (Ez ((p0 + 1).toNat) 6) (EF ((p0 + 1).toNat) 6) (Ez' ((p0 + 1).toNat) 6) (EF' ((p0 + 1).toNat) 6) 0)) ∨ (v = 1 ∧ z' 16 = -1 ∧ ¬ p2 = 0 ∧ (Ez' ((p0 + 1).toNat) 4 = Ez ((p0 + 1).toNat) 4 ∧ Ez' ((p0 + 1).toNat) 5 = Ez ((p0 + 1).toNat) 5 ∧ Ez' ((p0 + 1).toNat) 6 = Ez ((p0 + 1).toNat) 6) ∧ EF' ((p0 + 1).toNat) 4 = EF ((p0 + 1).toNat) 4 ∧ EF' ((p0 + 1).toNat) 5 = upI (EF ((p0 + 1).toNat) 5) (Ez ((p0 + 1).toNat) 9) (100000 + p1) ∧ EF' ((p0 + 1).toNat) 6 = upI (EF ((p0 + 1).toNat) 6) (Ez ((p0 + 1).toNat) 9) 1)))) ∨ ((xFr [] [] z F z' F' ∧ eFr [] [] En Ez EF En' Ez' EF') ∧ ((q = 1 ∧ (¬ (0 ≤ p0 ∧ p0 < z 12))) ∨ (q = 2 ∧ ((0 ≤ p0 ∧ p0 < z 12) ∧ ¬ (1 ≤ p1 ∧ p1 ≤ 99999))) ∨ (q = 3 ∧ ((0 ≤ p0 ∧ p0 < z 12) ∧ (1 ≤ p1 ∧ p1 ≤ 99999) ∧ p2 = 0 ∧ Ez ((p0 + 1).toNat) 9 < 0 ∧ 20 ≤ Ez ((p0 + 1).toNat) 4)))))) (hm : (rr = 0 ∧ Gm = Fm ∧ J = va_up I 0 1 ∧ (p0 < 0 ∨ I 1 ≤ p0)) ∨ (rr = 0 ∧ Gm = Fm ∧ J = va_up I 0 2 ∧ (0 ≤ p0 ∧ p0 < I 1) ∧ (p1 < 1 ∨ 99999 < p1)) ∨ (rr = 0 ∧ Gm = Fm ∧ J = va_up I 0 3 ∧ (0 ≤ p0 ∧ p0 < I 1) ∧ (1 ≤ p1 ∧ p1 ≤ 99999) ∧ p2 = 0 ∧ Fm 11 p0 = 0 ∧ Fm 10 p0 = 20) ∨ (rr = 1 ∧ J = va_up I 0 0 ∧ Gm = va_up Fm 11 (upI (Fm 11) p0 p1) ∧ (0 ≤ p0 ∧ p0 < I 1) ∧ (1 ≤ p1 ∧ p1 ≤ 99999) ∧ p2 = 0 ∧ Fm 11 p0 = 0 ∧ ¬ Fm 10 p0 = 20) ∨ (rr = 0 ∧ J = va_up I 0 0 ∧ Gm = Fm ∧ (0 ≤ p0 ∧ p0 < I 1) ∧ (1 ≤ p1 ∧ p1 ≤ 99999) ∧ ((p2 = 0 ∧ ¬ Fm 11 p0 = 0) ∨ (¬ p2 = 0 ∧ (Fm 11 p0 = 0 ∨ p1 < Fm 11 p0)))) ∨ (rr = 1 ∧ J = va_up I 0 0 ∧ Gm = va_up (va_up (va_up (va_up (va_up (va_up Fm 6 (upI (Fm 6) (20 * p0 + Fm 10 p0) 1)) 7 (upI (Fm 7) (20 * p0 + Fm 10 p0) (Fm 11 p0))) 8 (upI (Fm 8) (20 * p0 + Fm 10 p0) p1)) 9 (upI (Fm 9) (20 * p0 + Fm 10 p0) (vp_nar .boolean (iz 1)).toInt)) 10 (upI (Fm 10) p0 (Fm 10 p0 + 1))) 11 (upI (Fm 11) p0 0) ∧ (0 ≤ p0 ∧ p0 < I 1) ∧ (1 ≤ p1 ∧ p1 ≤ 99999) ∧ ¬ p2 = 0 ∧ ¬ Fm 11 p0 = 0 ∧ Fm 11 p0 ≤ p1)) : lawP Ez' EF' J Gm ∧ lo_K z' F' Ez' EF' := by
  have h12 := hR.2.1
  obtain ⟨hN, hc⟩ := hc
  rcases hc with ⟨c1, hx, he, v, c2, ⟨d1, d2, d3, oth⟩, c4⟩ | ⟨⟨hx, he⟩, c3⟩
  · have d1' : 0 ≤ p0 ∧ p0 < I 1 := by omega
    have q4 := (hR.2.2.2.2 p0 d1'.1 d1'.2).2.2.2
    have q3 := (hR.2.2.2.2 p0 d1'.1 d1'.2).2.2.1
    have hl0 := hI.1.hln p0
    obtain ⟨v1, v2, v3, v4⟩ := hV p0 d1'.1 d1'.2
    have hz4 : 0 ≤ Ez ((p0 + 1).toNat) 4 := by rw [q3]; split <;> omega
    rcases c4 with ⟨k1, k2, s4, s4f, s5, s5f, s6, s6f⟩ | ⟨k1, k2, k3, a4, a5, a6⟩ | ⟨k1, k2, k3, ⟨s4, s5, s6⟩, s4f, s5f, s6f⟩
    · have e9 : Ez' ((p0 + 1).toNat) 9 = Ez ((p0 + 1).toNat) 9 := by omega
      rcases hm with ⟨m1, eG, rfl, m2⟩ | ⟨m1, eG, rfl, m2, m3⟩ | ⟨m1, eG, rfl, m2, m3, m4, m5, m6⟩ | ⟨m1, rfl, eG, m2, m3, m4, m5, m6⟩ | ⟨m1, rfl, eG, m2, m3, m4⟩ | ⟨m1, rfl, eG, m2, m3, m4, m5, m6⟩
      · exact absurd (show (1 : Int) = q from g1) (by omega)
      · exact absurd (show (2 : Int) = q from g1) (by omega)
      · exact absurd (show (3 : Int) = q from g1) (by omega)
      · exfalso; omega
      · have hall : ∀ j, Ez' j 4 = Ez j 4 ∧ EF' j 4 = EF j 4 ∧ EF' j 5 = EF j 5 ∧ EF' j 6 = EF j 6 := fun j => by
          by_cases cj : j = ((p0 + 1).toNat)
          · rw [cj]; exact ⟨s4, s4f, s5f, s6f⟩
          · obtain ⟨x1, x2⟩ := oth j cj
            rw [x1, x2]; exact ⟨rfl, rfl, rfl, rfl⟩
        refine ⟨fun e h8 h9 => ?_, hC.fr k2 (hx.1 15 (by decide)) (hx.1 12 (by decide)) (hx.1 7 (by decide)) (hx.1 8 (by decide)) (hx.1 9 (by decide)) (hx.2 7 (by decide)) (hx.2 8 (by decide)) (fun j => he.1 j 10 (by decide)) (fun j => (hall j).1) (fun j => (hall j).2)⟩
        have h9' : e < I 1 := h9
        rw [eG, lo_P_fr (fun j => (hall j).1) (fun j => (hall j).2)]
        by_cases c : e = p0
        · subst c
          rw [s4, s5, s6, e9, s5f, s6f]
          exact hV e h8 h9'
        · obtain ⟨x1, x2⟩ := oth _ (show (e + 1).toNat ≠ (p0 + 1).toNat by omega)
          rw [x1, x2]
          exact hV e h8 h9'
      · exfalso; omega
    · rcases hm with ⟨m1, eG, rfl, m2⟩ | ⟨m1, eG, rfl, m2, m3⟩ | ⟨m1, eG, rfl, m2, m3, m4, m5, m6⟩ | ⟨m1, rfl, eG, m2, m3, m4, m5, m6⟩ | ⟨m1, rfl, eG, m2, m3, m4⟩ | ⟨m1, rfl, eG, m2, m3, m4, m5, m6⟩
      · exact absurd (show (1 : Int) = q from g1) (by omega)
      · exact absurd (show (2 : Int) = q from g1) (by omega)
      · exact absurd (show (3 : Int) = q from g1) (by omega)
      · refine ⟨fun e h8 h9 => ?_, Or.inl k2⟩
        have h9' : e < I 1 := h9
        have h6 : Gm 6 = Fm 6 := by rw [eG]; rfl
        have h7 : Gm 7 = Fm 7 := by rw [eG]; rfl
        have h8' : Gm 8 = Fm 8 := by rw [eG]; rfl
        have h9r : Gm 9 = Fm 9 := by rw [eG]; rfl
        have h10 : Gm 10 = Fm 10 := by rw [eG]; rfl
        have h11 : Gm 11 = upI (Fm 11) p0 p1 := by rw [eG]; rfl
        clear eG
        have hle := hI.1.hln e
        by_cases c : e = p0
        · subst c
          have g11 : Gm 11 e = p1 := by rw [h11, upI_self]
          have hR1 : lo_R Fm e = lo_ls (lo_Rf Fm e) (lo_Rt Fm e) (lo_Rr Fm e) (Fm 10 e).toNat 0 := by unfold lo_R; rw [lo_Ro_0 (by omega), List.append_nil]
          have hR2 : lo_R Gm e = lo_ls (lo_Rf Fm e) (lo_Rt Fm e) (lo_Rr Fm e) (Fm 10 e).toNat 0 ++ [(100000 + p1, 100000 + p1, 0)] := by
            unfold lo_R
            rw [lo_Ro_1 (by omega), g11, h10]
            unfold lo_Rf lo_Rt lo_Rr
            rw [h6, h7, h8', h9r]
            rfl
          obtain ⟨hPa, z4, z5, z6⟩ := lo_P_add a4 a5 a6 hz4 (by omega) v1.1 v1.2
          rw [hR1] at v2 v3
          refine ⟨by omega, ?_, ?_, fun _ => ?_⟩
          · rw [hPa, hR2]
            exact List.Perm.append_right _ v2
          · rw [hR2]
            intro x hx
            rcases List.mem_append.mp hx with hx | hx
            · exact v3 x hx
            · rw [List.mem_singleton.mp hx]
              exact ⟨Or.inr ⟨rfl, rfl⟩, Int.le_refl _, (show 1 ≤ (100000 + p1) % 100000 by omega), rfl, (show 0 ≤ 100000 + p1 by omega), (show 100000 + p1 < 300000 by omega), (show 100000 + p1 < 100000 → 100000 + p1 ≤ 3999 by omega), (show 200000 ≤ 100000 + p1 → 100000 + p1 ≤ 200702 by omega)⟩
          · have e9 : Ez' ((e + 1).toNat) 9 = Ez ((e + 1).toNat) 4 := by omega
            rw [e9, g11]
            refine ⟨?_, ?_⟩
            · rcases a5.1 with ⟨w1, -⟩ | ⟨w1, w2, w3⟩
              · omega
              · rw [v1.1]; exact w3
            · rcases a6.1 with ⟨w1, -⟩ | ⟨w1, w2, w3⟩
              · omega
              · rw [v1.1, v1.2]; exact w3
        · obtain ⟨x1, x2⟩ := oth _ (show (e + 1).toNat ≠ (p0 + 1).toNat by omega)
          have hP0 : lo_P Ez' EF' e = lo_P Ez EF e := by
            unfold lo_P
            rw [x1, x2]
          have hR0 : lo_R Gm e = lo_R Fm e := lo_R_ne (p := p0) (m := 0) (fun i _ => by rw [h6]) (fun i _ => by rw [h7]) (fun i _ => by rw [h8']) (fun i _ => by rw [h9r]) (by rw [h10]) (by rw [h11, upI_ne _ _ c]) (by omega) (by split at hle <;> omega) (Or.inl c)
          rw [hP0, x1, x2, hR0, h11, upI_ne _ _ c]
          exact hV e h8 h9'
      · exfalso; omega
      · exfalso; omega
    · rcases hm with ⟨m1, eG, rfl, m2⟩ | ⟨m1, eG, rfl, m2, m3⟩ | ⟨m1, eG, rfl, m2, m3, m4, m5, m6⟩ | ⟨m1, rfl, eG, m2, m3, m4, m5, m6⟩ | ⟨m1, rfl, eG, m2, m3, m4⟩ | ⟨m1, rfl, eG, m2, m3, m4, m5, m6⟩
      · exact absurd (show (1 : Int) = q from g1) (by omega)
      · exact absurd (show (2 : Int) = q from g1) (by omega)
      · exact absurd (show (3 : Int) = q from g1) (by omega)
      · exfalso; omega
      · exfalso; omega
      · refine ⟨fun e h8 h9 => ?_, Or.inl k2⟩
        have h9' : e < I 1 := h9
        have h6 : Gm 6 = upI (Fm 6) (20 * p0 + Fm 10 p0) 1 := by rw [eG]; rfl
        have h7 : Gm 7 = upI (Fm 7) (20 * p0 + Fm 10 p0) (Fm 11 p0) := by rw [eG]; rfl
        have h8' : Gm 8 = upI (Fm 8) (20 * p0 + Fm 10 p0) p1 := by rw [eG]; rfl
        have h9r : Gm 9 = upI (Fm 9) (20 * p0 + Fm 10 p0) ((vp_nar .boolean (iz 1)).toInt) := by rw [eG]; rfl
        have h10 : Gm 10 = upI (Fm 10) p0 (Fm 10 p0 + 1) := by rw [eG]; rfl
        have h11 : Gm 11 = upI (Fm 11) p0 0 := by rw [eG]; rfl
        rw [lo_bz (x := 1) (Or.inr rfl)] at h9r
        clear eG
        have hle := hI.1.hln e
        have h19 : Fm 10 p0 < 20 := by have := hl0.2.2.2; rw [if_pos (show 0 < Fm 11 p0 by omega)] at this; omega
        by_cases c : e = p0
        · subst c
          have g11 : Gm 11 e = 0 := by rw [h11, upI_self]
          have hRa := lo_R_add (F := Fm) (G := Gm) (kd := 1) (fr := Fm 11 e) (to := p1) (rg := 1) hl0.1 h6 h7 h8' h9r (by rw [h10, upI_self])
          rw [lo_Ro_0 (by omega), List.append_nil] at hRa
          have hR1 : lo_R Fm e = lo_ls (lo_Rf Fm e) (lo_Rt Fm e) (lo_Rr Fm e) (Fm 10 e).toNat 0 ++ [(100000 + Fm 11 e, 100000 + Fm 11 e, 0)] := by unfold lo_R; rw [lo_Ro_1 (by omega)]; rfl
          rw [hR1] at v2 v3
          obtain ⟨o5, o6⟩ := v4 (by omega)
          refine ⟨by omega, ?_, ?_, fun h7' => absurd h7' (by omega)⟩
          · rw [hRa]
            exact lo_P_end s4 s4f s5f s6f (by omega) (by omega) (show EF ((e + 1).toNat) 4 (Ez ((e + 1).toNat) 9) = 100000 + Fm 11 e by omega) o5 o6 v2
          · rw [hRa]
            intro x hx
            rcases List.mem_append.mp hx with hx | hx
            · exact v3 x (List.mem_append.mpr (Or.inl hx))
            · rw [List.mem_singleton.mp hx]
              exact ⟨Or.inl rfl, (show 100000 * 1 + Fm 11 e ≤ 100000 * 1 + p1 by omega), (show 1 ≤ (100000 * 1 + Fm 11 e) % 100000 by omega), (show (100000 * 1 + Fm 11 e) / 100000 = (100000 * 1 + p1) / 100000 by omega), (show 0 ≤ 100000 * 1 + Fm 11 e by omega), (show 100000 * 1 + Fm 11 e < 300000 by omega), (show 100000 * 1 + p1 < 100000 → 100000 * 1 + p1 ≤ 3999 by omega), (show 200000 ≤ 100000 * 1 + p1 → 100000 * 1 + p1 ≤ 200702 by omega)⟩
        · obtain ⟨x1, x2⟩ := oth _ (show (e + 1).toNat ≠ (p0 + 1).toNat by omega)
          have hP0 : lo_P Ez' EF' e = lo_P Ez EF e := by
            unfold lo_P
            rw [x1, x2]
          have hR0 : lo_R Gm e = lo_R Fm e := lo_R_ne (p := p0) (m := Fm 10 p0) (fun i hi => by rw [h6, upI_ne _ _ hi]) (fun i hi => by rw [h7, upI_ne _ _ hi]) (fun i hi => by rw [h8', upI_ne _ _ hi]) (fun i hi => by rw [h9r, upI_ne _ _ hi]) (by rw [h10, upI_ne _ _ c]) (by rw [h11, upI_ne _ _ c]) (by omega) (by split at hle <;> omega) (Or.inl c)
          rw [hP0, x1, x2, hR0, h11, upI_ne _ _ c]
          exact hV e h8 h9'
  · have hq0 : ¬ q = 0 := by rcases c3 with ⟨c1, -⟩ | ⟨c1, -⟩ | ⟨c1, -⟩ <;> omega
    rcases hm with ⟨m1, eG, rfl, m2⟩ | ⟨m1, eG, rfl, m2, m3⟩ | ⟨m1, eG, rfl, m2, m3, m4, m5, m6⟩ | ⟨m1, rfl, eG, m2, m3, m4, m5, m6⟩ | ⟨m1, rfl, eG, m2, m3, m4⟩ | ⟨m1, rfl, eG, m2, m3, m4, m5, m6⟩
    · exact ⟨hV.keep he (by decide) (by decide) rfl (by rw [eG]) (by rw [eG]) (by rw [eG]) (by rw [eG]) (by rw [eG]) (by rw [eG]), hC.keep hx he (by decide) (by decide) (by decide) (by decide)⟩
    · exact ⟨hV.keep he (by decide) (by decide) rfl (by rw [eG]) (by rw [eG]) (by rw [eG]) (by rw [eG]) (by rw [eG]) (by rw [eG]), hC.keep hx he (by decide) (by decide) (by decide) (by decide)⟩
    · exact ⟨hV.keep he (by decide) (by decide) rfl (by rw [eG]) (by rw [eG]) (by rw [eG]) (by rw [eG]) (by rw [eG]) (by rw [eG]), hC.keep hx he (by decide) (by decide) (by decide) (by decide)⟩
    · exact absurd (show (0 : Int) = q from g1).symm hq0
    · exact absurd (show (0 : Int) = q from g1).symm hq0
    · exact absurd (show (0 : Int) = q from g1).symm hq0
theorem sp_row  (hI : mIk k I Fm) (hR : lawR z Ez EF I Fm) (hW : lawW z F Ez I Fm) (hV : lawP Ez EF I Fm) (hC : lo_K z F Ez EF) (hc : N' = N ∧ ((q = 0 ∧ xFr [0, 1, 2, 4, 5, 6, 7, 8, 9, 15, 16] [0, 1, 2, 4, 5, 6, 7, 8, 9] z F z' F' ∧ eFr [10] [] En Ez EF En' Ez' EF' ∧ ∃ v : Int, fo' 0 = Int32.toInt64 (iz v) ∧ (rs_RK z' F' Ez' (Fm 2) (Fm 3) (rs_wd Fm) (kf_oc I Fm) ∧ lo_K z' F' Ez' EF')) ∨ ((xFr [0, 1, 2, 4, 5, 6, 7, 8, 9, 15, 16] [0, 1, 2, 4, 5, 6, 7, 8, 9] z F z' F' ∧ eFr [10] [] En Ez EF En' Ez' EF' ∧ (rs_RK z' F' Ez' (Fm 2) (Fm 3) (rs_wd Fm) (kf_oc I Fm) ∧ lo_K z' F' Ez' EF')) ∧ ((q = 1 ∧ (True)))))) (hm : mWk I Fm J Gm) : lawP Ez' EF' J Gm ∧ lo_K z' F' Ez' EF' := by
  obtain ⟨hN, hc⟩ := hc
  rcases hc with ⟨-, -, h2, v, -, -, hck⟩ | ⟨⟨-, h2, -, hck⟩, -⟩
  · exact ⟨hV.ask h2 (by decide) (by decide) hm, hck⟩
  · exact ⟨hV.ask h2 (by decide) (by decide) hm, hck⟩
theorem sp_print  (hI : mIk k I Fm) (hR : lawR z Ez EF I Fm) (hW : lawW z F Ez I Fm) (hV : lawP Ez EF I Fm) (hC : lo_K z F Ez EF) (hc : N' = N ∧ ((q = 0 ∧ xFr [0, 1, 2, 4, 5, 6, 7, 8, 9, 10, 11, 15, 16, 22, 23] [0, 1, 2, 4, 5, 6, 7, 8, 9, 10, 11] z F z' F' ∧ eFr [10] [] En Ez EF En' Ez' EF' ∧ ∃ v : Int, fo' 0 = Int32.toInt64 (iz v) ∧ (rs_RK z' F' Ez' (Fm 2) (Fm 3) (rs_wd Fm) (kf_oc I Fm) ∧ lo_K z' F' Ez' EF')) ∨ ((xFr [0, 1, 2, 4, 5, 6, 7, 8, 9, 10, 11, 15, 16, 22, 23] [0, 1, 2, 4, 5, 6, 7, 8, 9, 10, 11] z F z' F' ∧ eFr [10] [] En Ez EF En' Ez' EF' ∧ (rs_RK z' F' Ez' (Fm 2) (Fm 3) (rs_wd Fm) (kf_oc I Fm) ∧ lo_K z' F' Ez' EF')) ∧ ((q = 1 ∧ (True)))))) (hm : mWk I Fm J Gm) : lawP Ez' EF' J Gm ∧ lo_K z' F' Ez' EF' := by
  obtain ⟨hN, hc⟩ := hc
  rcases hc with ⟨-, -, h2, v, -, -, hck⟩ | ⟨⟨-, h2, -, hck⟩, -⟩
  · exact ⟨hV.ask h2 (by decide) (by decide) hm, hck⟩
  · exact ⟨hV.ask h2 (by decide) (by decide) hm, hck⟩
theorem sp_compare {p0 p1 : Int}  (hI : mIk k I Fm) (hR : lawR z Ez EF I Fm) (hW : lawW z F Ez I Fm) (hV : lawP Ez EF I Fm) (hC : lo_K z F Ez EF) (hc : N' = N ∧ ((q = 0 ∧ xFr [] [] z F z' F' ∧ eFr [] [] En Ez EF En' Ez' EF' ∧ ∃ v : Int, fo' 0 = Int32.toInt64 (iz v) ∧ (((0 ≤ p0 ∧ p0 < z 12) ∧ (0 ≤ p1 ∧ p1 < z 12)) ∧ ((¬ kf_lx (kf_ls (EF ((p0 + 1).toNat) 2) 0 (Ez ((p0 + 1).toNat) 2).toNat) (kf_ls (EF ((p1 + 1).toNat) 2) 0 (Ez ((p1 + 1).toNat) 2).toNat) = 0 ∧ v = kf_lx (kf_ls (EF ((p0 + 1).toNat) 2) 0 (Ez ((p0 + 1).toNat) 2).toNat) (kf_ls (EF ((p1 + 1).toNat) 2) 0 (Ez ((p1 + 1).toNat) 2).toNat)) ∨ (kf_lx (kf_ls (EF ((p0 + 1).toNat) 2) 0 (Ez ((p0 + 1).toNat) 2).toNat) (kf_ls (EF ((p1 + 1).toNat) 2) 0 (Ez ((p1 + 1).toNat) 2).toNat) = 0 ∧ v = kf_lx (kf_ls (EF ((p0 + 1).toNat) 1) 0 (Ez ((p0 + 1).toNat) 1).toNat) (kf_ls (EF ((p1 + 1).toNat) 1) 0 (Ez ((p1 + 1).toNat) 1).toNat))))) ∨ ((xFr [] [] z F z' F' ∧ eFr [] [] En Ez EF En' Ez' EF') ∧ ((q = 1 ∧ (¬ ((0 ≤ p0 ∧ p0 < z 12) ∧ (0 ≤ p1 ∧ p1 < z 12)))))))) (hm : mWk I Fm J Gm) : lawP Ez' EF' J Gm ∧ lo_K z' F' Ez' EF' := by
  obtain ⟨hN, hc⟩ := hc
  have h : xFr [] [] z F z' F' ∧ eFr [] [] En Ez EF En' Ez' EF' := by
    rcases hc with ⟨-, h1, h2, -⟩ | ⟨h1, -⟩
    · exact ⟨h1, h2⟩
    · exact h1
  exact ⟨hV.ask h.2 (by decide) (by decide) hm, hC.keep h.1 h.2 (by decide) (by decide) (by decide) (by decide)⟩
theorem sp_at  (hI : mIk k I Fm) (hR : lawR z Ez EF I Fm) (hW : lawW z F Ez I Fm) (hV : lawP Ez EF I Fm) (hC : lo_K z F Ez EF) (hc : N' = N ∧ ((q = 0 ∧ xFr [] [] z F z' F' ∧ eFr [] [] En Ez EF En' Ez' EF' ∧ ∃ v : Int, fo' 0 = Int32.toInt64 (iz v) ∧ (True)) ∨ ((xFr [] [] z F z' F' ∧ eFr [] [] En Ez EF En' Ez' EF') ∧ ((q = 1 ∧ (True)))))) (hm : mWk I Fm J Gm) : lawP Ez' EF' J Gm ∧ lo_K z' F' Ez' EF' := by
  obtain ⟨hN, hc⟩ := hc
  have h : xFr [] [] z F z' F' ∧ eFr [] [] En Ez EF En' Ez' EF' := by
    rcases hc with ⟨-, h1, h2, -⟩ | ⟨h1, -⟩
    · exact ⟨h1, h2⟩
    · exact h1
  exact ⟨hV.ask h.2 (by decide) (by decide) hm, hC.keep h.1 h.2 (by decide) (by decide) (by decide) (by decide)⟩
theorem sp_told {p0 p1 : Int}  (hI : mIk k I Fm) (hR : lawR z Ez EF I Fm) (hW : lawW z F Ez I Fm) (hV : lawP Ez EF I Fm) (hC : lo_K z F Ez EF) (hc : N' = N ∧ ((q = 0 ∧ xFr [0, 1, 15, 17, 18, 19, 20, 21] [0, 1] z F z' F' ∧ eFr [10, 11, 12, 13] [] En Ez EF En' Ez' EF' ∧ ∃ v : Int, fo' 0 = Int32.toInt64 (iz v) ∧ (rs_RK z' F' Ez' (Fm 2) (Fm 3) (rs_wd Fm) (kf_oc I Fm) ∧ z' 15 = 1 ∧ ∃ nn kd av mv : Int, wr_TE p0 (wr_a (z 12) (Fm 2) (Fm 3) (rs_sE Ez') (wr_pg Fm) (Fm 13) (Fm 11) (wr_se Fm) (z 12).toNat 0) nn kd av mv ∧ ¬ (¬ p0 = -1 ∧ (¬ (0 ≤ p0 ∧ p0 < nn) ∨ p1 < 0 ∨ 2 < p1)) ∧ v = (if p0 = -1 then nn else if p1 = 0 then kd else if p1 = 1 then av else mv))) ∨ ((xFr [0, 1, 15, 17, 18, 19, 20, 21] [0, 1] z F z' F' ∧ eFr [10, 11, 12, 13] [] En Ez EF En' Ez' EF' ∧ (rs_RK z' F' Ez' (Fm 2) (Fm 3) (rs_wd Fm) (kf_oc I Fm) ∧ z' 15 = 1)) ∧ ((q = 1 ∧ (∃ s9 : Int → Int, rs_C (Fm 2) (Fm 3) (rs_wd Fm) (z 12) s9 ∧ (¬ p0 = -1 ∧ (¬ (0 ≤ p0 ∧ p0 < (((wr_a (z 12) (Fm 2) (Fm 3) s9 (wr_pg Fm) (Fm 13) (Fm 11) (wr_se Fm) (z 12).toNat 0).length : Nat) : Int)) ∨ p1 < 0 ∨ 2 < p1)))))))) (hm : mWk I Fm J Gm) : lawP Ez' EF' J Gm ∧ lo_K z' F' Ez' EF' := by
  obtain ⟨hN, hc⟩ := hc
  rcases hc with ⟨-, hx, he, v, -, hrk, c15, -⟩ | ⟨⟨hx, he, hrk, c15⟩, -⟩
  · exact ⟨hV.ask he (by decide) (by decide) hm, hC.finds hW hI hR hrk c15 hx he (by decide) (by decide) (by decide) (by decide)⟩
  · exact ⟨hV.ask he (by decide) (by decide) hm, hC.finds hW hI hR hrk c15 hx he (by decide) (by decide) (by decide) (by decide)⟩
theorem sp_locator {p0 p1 p2 : Int}  (hI : mIk k I Fm) (hR : lawR z Ez EF I Fm) (hW : lawW z F Ez I Fm) (hV : lawP Ez EF I Fm) (hC : lo_K z F Ez EF) (hz1 : 0 ≤ z' 1) (hz7 : 0 ≤ z' 7) (hc : N' = N ∧ ((q = 0 ∧ xFr [0, 1, 2, 4, 5, 6, 7, 8, 9, 15, 16] [0, 1, 2, 4, 5, 6, 7, 8, 9] z F z' F' ∧ eFr [10] [] En Ez EF En' Ez' EF' ∧ ∃ v : Int, fo' 0 = Int32.toInt64 (iz v) ∧ (rs_RK z' F' Ez' (Fm 2) (Fm 3) (rs_wd Fm) (kf_oc I Fm) ∧ lo_K z' F' Ez' EF' ∧ z' 15 = 1 ∧ (0 ≤ p0 ∧ p0 < z' 1) ∧ z' 16 = F' 1 p0 ∧ (0 ≤ p1 ∧ p1 < z' 7) ∧ (0 ≤ p2 ∧ p2 ≤ 2) ∧ v = (if p2 = 0 then F' 7 p1 / 100000 else (if p2 = 1 then F' 7 p1 else F' 8 p1) % 100000))) ∨ ((xFr [0, 1, 2, 4, 5, 6, 7, 8, 9, 15, 16] [0, 1, 2, 4, 5, 6, 7, 8, 9] z F z' F' ∧ eFr [10] [] En Ez EF En' Ez' EF' ∧ (rs_RK z' F' Ez' (Fm 2) (Fm 3) (rs_wd Fm) (kf_oc I Fm) ∧ lo_K z' F' Ez' EF' ∧ z' 15 = 1 ∧ (¬ (0 ≤ p0 ∧ p0 < z' 1) ∨ ((0 ≤ p0 ∧ p0 < z' 1) ∧ z' 16 = F' 1 p0 ∧ ¬ ((0 ≤ p1 ∧ p1 < z' 7) ∧ 0 ≤ p2 ∧ p2 ≤ 2))))) ∧ ((q = 1 ∧ (True)))))) (hm : mWk I Fm J Gm ∧ mKb J Gm ∧ J 16 = 1 ∧ ((J 0 = 1 ∧ ¬ (0 ≤ p0 ∧ p0 < J 19)) ∨ ((0 ≤ p0 ∧ p0 < J 19) ∧ ∃ M9, lo_S (lo_row (Gm 17) (lo_R Gm) (Gm 18 p0) (J 1).toNat) M9 ∧ ((J 0 = 1 ∧ ¬ ((0 ≤ p1 ∧ p1 < (((lo_L (lo_J M9)).length : Nat) : Int)) ∧ 0 ≤ p2 ∧ p2 ≤ 2)) ∨ (J 0 = 0 ∧ ((0 ≤ p1 ∧ p1 < (((lo_L (lo_J M9)).length : Nat) : Int)) ∧ 0 ≤ p2 ∧ p2 ≤ 2) ∧ ∃ kd fr to : Int, (0 ≤ fr ∧ fr ≤ 99999) ∧ (0 ≤ to ∧ to ≤ 99999) ∧ (lo_L (lo_J M9))[p1.toNat]? = some (100000 * kd + fr, 100000 * kd + to) ∧ rr = (if p2 = 0 then kd else if p2 = 1 then fr else to)))))) : J 0 = q ∧ (q = 0 → fo' 0 = Int32.toInt64 (iz rr)) ∧ lawP Ez' EF' J Gm ∧ lo_K z' F' Ez' EF' := by
  obtain ⟨hw, hkb, m16, hm⟩ := hm
  have h12 := hR.2.1
  have hf := hw.2.1
  have hL := hW.lv hI
  obtain ⟨hN, hc⟩ := hc
  have hcom : xFr [0, 1, 2, 4, 5, 6, 7, 8, 9, 15, 16] [0, 1, 2, 4, 5, 6, 7, 8, 9] z F z' F' → eFr [10] [] En Ez EF En' Ez' EF' → rs_RK z' F' Ez' (Fm 2) (Fm 3) (rs_wd Fm) (kf_oc I Fm) → z' 15 = 1 → lawP Ez' EF' J Gm ∧ z' 12 = I 1 ∧ J 1 = I 1 ∧ z' 1 = J 19 ∧ (∀ i, 0 ≤ i → i < z' 1 → F' 1 i = Gm 18 i ∧ 0 ≤ F' 1 i) ∧ ∀ e, 0 ≤ e → e < I 1 → rs_sE Ez' e = Gm 17 e := fun hx he hrk c15 => by
    obtain ⟨r1, r2, r3⟩ := hrk c15
    obtain ⟨k1, k2, k3⟩ := hkb.2 m16
    have e12 : z' 12 = I 1 := by rw [hx.1 12 (by decide)]; exact h12
    have hsz := ((hI.ask hw).1.hkn m16).2.1
    rw [e12] at r1 r3
    rw [hf.1 1 (by decide), hf.2 2 (by decide), hf.2 3 (by decide), rs_wd_fr (hf.2 4 (by decide)) (hf.2 5 (by decide))] at k1
    rw [hf.2 2 (by decide), hf.2 3 (by decide), kf_oc_fr (hf.1 14 (by decide)) (hf.1 15 (by decide)) (hf.2 4 (by decide)) (hf.2 5 (by decide))] at k2
    rw [hf.1 1 (by decide)] at k3
    have q1 := rs_rows_eq hL (rs_wd_W Fm) (kf_oc_cm I Fm) hz1 hsz.1 r1 r2 r3 k1 k2 k3
    exact ⟨hV.ask he (by decide) (by decide) hw, e12, hf.1 1 (by decide), q1.1.1, fun i a b => ⟨q1.1.2 i a b, ((r3 (F' 1 i)).mp ⟨i, a, b, rfl⟩).1⟩, q1.2⟩
  have hpl : ∀ (M9 : List lo_T), lawP Ez' EF' J Gm → z' 12 = I 1 → J 1 = I 1 → (∀ e, 0 ≤ e → e < I 1 → rs_sE Ez' e = Gm 17 e) → F' 1 p0 = Gm 18 p0 → z' 16 = F' 1 p0 → 0 ≤ F' 1 p0 → lo_K z' F' Ez' EF' → lo_S (lo_row (Gm 17) (lo_R Gm) (Gm 18 p0) (J 1).toNat) M9 → lo_pl (F' 7) (F' 8) (z' 7).toNat 0 = lo_L (lo_J M9) := fun M9 hV9 e12 e1 hs er e16 er0 hck hS9 => by
    rcases hck with hck | ⟨-, -, M, hS, hPL⟩
    · omega
    · rw [hPL]
      have hp : (lo_row (rs_sE Ez') (lo_P Ez' EF') (z' 16) (z' 12).toNat).Perm (lo_row (Gm 17) (lo_R Gm) (Gm 18 p0) (J 1).toNat) := by
        rw [e16, er, e12, e1]
        exact lo_row_perm _ (fun e a b => ⟨hs e a (by omega), (hV9 e a (by omega)).2.1⟩)
      have hok : lo_ok M := fun x hx => by
        have hv : lo_v x := lo_row_all (V := lo_v) _ (fun e a b y hy => (hV9 e a (by omega)).2.2.1 y ((hV9 e a (by omega)).2.1.mem_iff.mp hy)) x (hS.2.mem_iff.mp hx)
        exact hv.2.1
      rw [lo_J_perm hS.1 hS9.1 hok ((hS.2.trans hp).trans hS9.2.symm)]
  rcases hc with ⟨c1, hx, he, v, c2, hrk, hck, c15, hpi, h16, hj, hw2, hva⟩ | ⟨⟨hx, he, hrk, hck, c15, hbad⟩, c1, -⟩
  · obtain ⟨hV9, e12, e1, e19, hrow, hs⟩ := hcom hx he hrk c15
    obtain ⟨er, er0⟩ := hrow p0 hpi.1 hpi.2
    subst c1
    rcases hm with ⟨m0, mb⟩ | ⟨mg, M9, hS9, hm⟩
    · exact absurd (show 0 ≤ p0 ∧ p0 < J 19 by omega) mb
    have hPL := hpl M9 hV9 e12 e1 hs er h16 er0 hck hS9
    have hlen := congrArg List.length hPL
    rw [lo_pl_len] at hlen
    rcases hm with ⟨m0, mb⟩ | ⟨m0, mg2, kd, fr, to, hb1, hb2, hat, hrr⟩
    · exact absurd (show (0 ≤ p1 ∧ p1 < (((lo_L (lo_J M9)).length : Nat) : Int)) ∧ 0 ≤ p2 ∧ p2 ≤ 2 from ⟨by rw [← hlen]; omega, hw2⟩) mb
    · refine ⟨m0, fun _ => ?_, hV9, hck⟩
      rw [← hPL, lo_pl_at _ _ _ _ _ (by omega), show (0 : Int) + ((p1.toNat : Nat) : Int) = p1 by omega] at hat
      have hat2 := Option.some.inj hat
      have t1 : F' 7 p1 = 100000 * kd + fr := congrArg Prod.fst hat2
      have t2 : F' 8 p1 = 100000 * kd + to := congrArg Prod.snd hat2
      have hvr : v = rr := by
        rw [hva, hrr, t1, t2]
        by_cases c : p2 = 0
        · rw [if_pos c, if_pos c]; omega
        · rw [if_neg c, if_neg c]
          by_cases d : p2 = 1
          · rw [if_pos d, if_pos d]; omega
          · rw [if_neg d, if_neg d]; omega
      rw [c2, hvr]
  · obtain ⟨hV9, e12, e1, e19, hrow, hs⟩ := hcom hx he hrk c15
    subst c1
    rcases hbad with hbad | ⟨hpi, h16, hbad⟩
    · rcases hm with ⟨m0, mb⟩ | ⟨mg, M9, hS9, hm⟩
      · exact ⟨m0, fun h9 => absurd h9 (by decide), hV9, hck⟩
      · exact absurd (show 0 ≤ p0 ∧ p0 < z' 1 by omega) hbad
    · obtain ⟨er, er0⟩ := hrow p0 hpi.1 hpi.2
      rcases hm with ⟨m0, mb⟩ | ⟨mg, M9, hS9, hm⟩
      · exact ⟨m0, fun h9 => absurd h9 (by decide), hV9, hck⟩
      have hPL := hpl M9 hV9 e12 e1 hs er h16 er0 hck hS9
      have hlen := congrArg List.length hPL
      rw [lo_pl_len] at hlen
      rcases hm with ⟨m0, mb⟩ | ⟨m0, mg2, -⟩
      · exact ⟨m0, fun h9 => absurd h9 (by decide), hV9, hck⟩
      · rw [← hlen] at mg2
        exact absurd (show (0 ≤ p1 ∧ p1 < z' 7) ∧ 0 ≤ p2 ∧ p2 ≤ 2 by omega) hbad
theorem wk_page {p0 p1 p2 : Int} (hc : N' = N ∧ ((q = 0 ∧ xFr [16] [] z F z' F' ∧ eFr [4, 5, 6] [4, 5, 6] En Ez EF En' Ez' EF' ∧ ∃ v : Int, fo' 0 = Int32.toInt64 (iz v) ∧ (((0 ≤ p0 ∧ p0 < z 12) ∧ (1 ≤ p2 ∧ ((p1 = 0 ∧ p2 ≤ 3999) ∨ (p1 = 1 ∧ p2 ≤ 99999) ∨ (p1 = 2 ∧ p2 ≤ 702))) ∧ Ez ((p0 + 1).toNat) 4 < 20 ∧ v = Ez ((p0 + 1).toNat) 4 + 1 ∧ Ez' ((p0 + 1).toNat) 4 = Ez ((p0 + 1).toNat) 4 + 1 ∧ (∀ i, 0 ≤ i → i < Ez ((p0 + 1).toNat) 4 → EF' ((p0 + 1).toNat) 4 i = EF ((p0 + 1).toNat) 4 i) ∧ (∀ j, j ≠ ((p0 + 1).toNat) → Ez' j = Ez j ∧ EF' j = EF j)) ∧ (iAdd 20 (Ez ((p0 + 1).toNat) 4) (EF ((p0 + 1).toNat) 4) (Ez' ((p0 + 1).toNat) 4) (EF' ((p0 + 1).toNat) 4) (p1 * 100000 + p2) ∧ iAdd 20 (Ez ((p0 + 1).toNat) 5) (EF ((p0 + 1).toNat) 5) (Ez' ((p0 + 1).toNat) 5) (EF' ((p0 + 1).toNat) 5) (p1 * 100000 + p2) ∧ iAdd 20 (Ez ((p0 + 1).toNat) 6) (EF ((p0 + 1).toNat) 6) (Ez' ((p0 + 1).toNat) 6) (EF' ((p0 + 1).toNat) 6) 0) ∧ z' 16 = -1)) ∨ ((xFr [] [] z F z' F' ∧ eFr [] [] En Ez EF En' Ez' EF') ∧ ((q = 1 ∧ (¬ (0 ≤ p0 ∧ p0 < z 12))) ∨ (q = 2 ∧ ((0 ≤ p0 ∧ p0 < z 12) ∧ ¬ (1 ≤ p2 ∧ ((p1 = 0 ∧ p2 ≤ 3999) ∨ (p1 = 1 ∧ p2 ≤ 99999) ∨ (p1 = 2 ∧ p2 ≤ 702))))) ∨ (q = 3 ∧ ((0 ≤ p0 ∧ p0 < z 12) ∧ (1 ≤ p2 ∧ ((p1 = 0 ∧ p2 ≤ 3999) ∨ (p1 = 1 ∧ p2 ≤ 99999) ∨ (p1 = 2 ∧ p2 ≤ 702))) ∧ 20 ≤ Ez ((p0 + 1).toNat) 4)))))) : N' = N ∧ ((q = 0 ∧ xFr [16] [] z F z' F' ∧ eFr [4, 5, 6] [4, 5, 6] En Ez EF En' Ez' EF' ∧ ∃ v : Int, fo' 0 = Int32.toInt64 (iz v) ∧ ((0 ≤ p0 ∧ p0 < z 12) ∧ (1 ≤ p2 ∧ ((p1 = 0 ∧ p2 ≤ 3999) ∨ (p1 = 1 ∧ p2 ≤ 99999) ∨ (p1 = 2 ∧ p2 ≤ 702))) ∧ Ez ((p0 + 1).toNat) 4 < 20 ∧ v = Ez ((p0 + 1).toNat) 4 + 1 ∧ Ez' ((p0 + 1).toNat) 4 = Ez ((p0 + 1).toNat) 4 + 1 ∧ (∀ i, 0 ≤ i → i < Ez ((p0 + 1).toNat) 4 → EF' ((p0 + 1).toNat) 4 i = EF ((p0 + 1).toNat) 4 i) ∧ (∀ j, j ≠ ((p0 + 1).toNat) → Ez' j = Ez j ∧ EF' j = EF j))) ∨ ((xFr [] [] z F z' F' ∧ eFr [] [] En Ez EF En' Ez' EF') ∧ ((q = 1 ∧ (¬ (0 ≤ p0 ∧ p0 < z 12))) ∨ (q = 2 ∧ ((0 ≤ p0 ∧ p0 < z 12) ∧ ¬ (1 ≤ p2 ∧ ((p1 = 0 ∧ p2 ≤ 3999) ∨ (p1 = 1 ∧ p2 ≤ 99999) ∨ (p1 = 2 ∧ p2 ≤ 702))))) ∨ (q = 3 ∧ ((0 ≤ p0 ∧ p0 < z 12) ∧ (1 ≤ p2 ∧ ((p1 = 0 ∧ p2 ≤ 3999) ∨ (p1 = 1 ∧ p2 ≤ 99999) ∨ (p1 = 2 ∧ p2 ≤ 702))) ∧ 20 ≤ Ez ((p0 + 1).toNat) 4))))) := by
  obtain ⟨hN, hc⟩ := hc
  rcases hc with ⟨c1, hx, he, v, c2, c3, -⟩ | c3
  · exact ⟨hN, Or.inl ⟨c1, hx, he, v, c2, c3⟩⟩
  · exact ⟨hN, Or.inr c3⟩
theorem wk_locator {p0 p1 p2 : Int} (hc : N' = N ∧ ((q = 0 ∧ xFr [0, 1, 2, 4, 5, 6, 7, 8, 9, 15, 16] [0, 1, 2, 4, 5, 6, 7, 8, 9] z F z' F' ∧ eFr [10] [] En Ez EF En' Ez' EF' ∧ ∃ v : Int, fo' 0 = Int32.toInt64 (iz v) ∧ (rs_RK z' F' Ez' (Fm 2) (Fm 3) (rs_wd Fm) (kf_oc I Fm) ∧ lo_K z' F' Ez' EF' ∧ z' 15 = 1 ∧ (0 ≤ p0 ∧ p0 < z' 1) ∧ z' 16 = F' 1 p0 ∧ (0 ≤ p1 ∧ p1 < z' 7) ∧ (0 ≤ p2 ∧ p2 ≤ 2) ∧ v = (if p2 = 0 then F' 7 p1 / 100000 else (if p2 = 1 then F' 7 p1 else F' 8 p1) % 100000))) ∨ ((xFr [0, 1, 2, 4, 5, 6, 7, 8, 9, 15, 16] [0, 1, 2, 4, 5, 6, 7, 8, 9] z F z' F' ∧ eFr [10] [] En Ez EF En' Ez' EF' ∧ (rs_RK z' F' Ez' (Fm 2) (Fm 3) (rs_wd Fm) (kf_oc I Fm) ∧ lo_K z' F' Ez' EF' ∧ z' 15 = 1 ∧ (¬ (0 ≤ p0 ∧ p0 < z' 1) ∨ ((0 ≤ p0 ∧ p0 < z' 1) ∧ z' 16 = F' 1 p0 ∧ ¬ ((0 ≤ p1 ∧ p1 < z' 7) ∧ 0 ≤ p2 ∧ p2 ≤ 2))))) ∧ ((q = 1 ∧ (True)))))) : N' = N ∧ ((q = 0 ∧ xFr [0, 1, 2, 4, 5, 6, 7, 8, 9, 15, 16] [0, 1, 2, 4, 5, 6, 7, 8, 9] z F z' F' ∧ eFr [10] [] En Ez EF En' Ez' EF' ∧ ∃ v : Int, fo' 0 = Int32.toInt64 (iz v) ∧ (rs_RK z' F' Ez' (Fm 2) (Fm 3) (rs_wd Fm) (kf_oc I Fm))) ∨ ((xFr [0, 1, 2, 4, 5, 6, 7, 8, 9, 15, 16] [0, 1, 2, 4, 5, 6, 7, 8, 9] z F z' F' ∧ eFr [10] [] En Ez EF En' Ez' EF' ∧ (rs_RK z' F' Ez' (Fm 2) (Fm 3) (rs_wd Fm) (kf_oc I Fm))) ∧ ((q = 1 ∧ (True))))) := by
  obtain ⟨hN, hc⟩ := hc
  rcases hc with ⟨c1, hx, he, v, c2, c3, -⟩ | ⟨⟨hx, he, c3, -⟩, c4⟩
  · exact ⟨hN, Or.inl ⟨c1, hx, he, v, c2, c3⟩⟩
  · exact ⟨hN, Or.inr ⟨⟨hx, he, c3⟩, c4⟩⟩
theorem wk_range {p0 p1 p2 : Int} (hc : N' = N ∧ ((q = 0 ∧ xFr [16] [] z F z' F' ∧ eFr [4, 5, 6, 9] [4, 5, 6] En Ez EF En' Ez' EF' ∧ ∃ v : Int, fo' 0 = Int32.toInt64 (iz v) ∧ (((0 ≤ p0 ∧ p0 < z 12) ∧ (1 ≤ p1 ∧ p1 ≤ 99999) ∧ ((p2 = 0 ∧ 0 ≤ Ez ((p0 + 1).toNat) 9 ∧ v = 0 ∧ Ez' ((p0 + 1).toNat) 9 = Ez ((p0 + 1).toNat) 9 ∧ Ez' ((p0 + 1).toNat) 4 = Ez ((p0 + 1).toNat) 4 ∧ EF' ((p0 + 1).toNat) 4 = EF ((p0 + 1).toNat) 4) ∨ (p2 = 0 ∧ Ez ((p0 + 1).toNat) 9 < 0 ∧ Ez ((p0 + 1).toNat) 4 < 20 ∧ v = 1 ∧ Ez' ((p0 + 1).toNat) 9 = Ez ((p0 + 1).toNat) 4 ∧ Ez' ((p0 + 1).toNat) 4 = Ez ((p0 + 1).toNat) 4 + 1 ∧ EF' ((p0 + 1).toNat) 4 (Ez ((p0 + 1).toNat) 4) = 100000 + p1) ∨ (¬ p2 = 0 ∧ v = 0 ∧ Ez' ((p0 + 1).toNat) 9 = Ez ((p0 + 1).toNat) 9 ∧ Ez' ((p0 + 1).toNat) 4 = Ez ((p0 + 1).toNat) 4 ∧ EF' ((p0 + 1).toNat) 4 = EF ((p0 + 1).toNat) 4 ∧ (0 ≤ Ez ((p0 + 1).toNat) 9 → Ez ((p0 + 1).toNat) 9 < Ez ((p0 + 1).toNat) 4 → 100000 + p1 < EF ((p0 + 1).toNat) 4 (Ez ((p0 + 1).toNat) 9))) ∨ (¬ p2 = 0 ∧ v = 1 ∧ 0 ≤ Ez ((p0 + 1).toNat) 9 ∧ (Ez ((p0 + 1).toNat) 9 < Ez ((p0 + 1).toNat) 4 → EF ((p0 + 1).toNat) 4 (Ez ((p0 + 1).toNat) 9) ≤ 100000 + p1) ∧ Ez' ((p0 + 1).toNat) 9 = -1 ∧ Ez' ((p0 + 1).toNat) 4 = Ez ((p0 + 1).toNat) 4 ∧ EF' ((p0 + 1).toNat) 4 = EF ((p0 + 1).toNat) 4)) ∧ (∀ j, j ≠ ((p0 + 1).toNat) → Ez' j = Ez j ∧ EF' j = EF j)) ∧ ((v = 0 ∧ z' 16 = z 16 ∧ Ez' ((p0 + 1).toNat) 4 = Ez ((p0 + 1).toNat) 4 ∧ EF' ((p0 + 1).toNat) 4 = EF ((p0 + 1).toNat) 4 ∧ Ez' ((p0 + 1).toNat) 5 = Ez ((p0 + 1).toNat) 5 ∧ EF' ((p0 + 1).toNat) 5 = EF ((p0 + 1).toNat) 5 ∧ Ez' ((p0 + 1).toNat) 6 = Ez ((p0 + 1).toNat) 6 ∧ EF' ((p0 + 1).toNat) 6 = EF ((p0 + 1).toNat) 6) ∨ (v = 1 ∧ z' 16 = -1 ∧ p2 = 0 ∧ (iAdd 20 (Ez ((p0 + 1).toNat) 4) (EF ((p0 + 1).toNat) 4) (Ez' ((p0 + 1).toNat) 4) (EF' ((p0 + 1).toNat) 4) (100000 + p1) ∧ iAdd 20 (Ez ((p0 + 1).toNat) 5) (EF ((p0 + 1).toNat) 5) (Ez' ((p0 + 1).toNat) 5) (EF' ((p0 + 1).toNat) 5) (100000 + p1) ∧ iAdd 20 (Ez ((p0 + 1).toNat) 6) (EF ((p0 + 1).toNat) 6) (Ez' ((p0 + 1).toNat) 6) (EF' ((p0 + 1).toNat) 6) 0)) ∨ (v = 1 ∧ z' 16 = -1 ∧ ¬ p2 = 0 ∧ (Ez' ((p0 + 1).toNat) 4 = Ez ((p0 + 1).toNat) 4 ∧ Ez' ((p0 + 1).toNat) 5 = Ez ((p0 + 1).toNat) 5 ∧ Ez' ((p0 + 1).toNat) 6 = Ez ((p0 + 1).toNat) 6) ∧ EF' ((p0 + 1).toNat) 4 = EF ((p0 + 1).toNat) 4 ∧ EF' ((p0 + 1).toNat) 5 = upI (EF ((p0 + 1).toNat) 5) (Ez ((p0 + 1).toNat) 9) (100000 + p1) ∧ EF' ((p0 + 1).toNat) 6 = upI (EF ((p0 + 1).toNat) 6) (Ez ((p0 + 1).toNat) 9) 1)))) ∨ ((xFr [] [] z F z' F' ∧ eFr [] [] En Ez EF En' Ez' EF') ∧ ((q = 1 ∧ (¬ (0 ≤ p0 ∧ p0 < z 12))) ∨ (q = 2 ∧ ((0 ≤ p0 ∧ p0 < z 12) ∧ ¬ (1 ≤ p1 ∧ p1 ≤ 99999))) ∨ (q = 3 ∧ ((0 ≤ p0 ∧ p0 < z 12) ∧ (1 ≤ p1 ∧ p1 ≤ 99999) ∧ p2 = 0 ∧ Ez ((p0 + 1).toNat) 9 < 0 ∧ 20 ≤ Ez ((p0 + 1).toNat) 4)))))) : N' = N ∧ ((q = 0 ∧ xFr [16] [] z F z' F' ∧ eFr [4, 5, 6, 9] [4, 5, 6] En Ez EF En' Ez' EF' ∧ ∃ v : Int, fo' 0 = Int32.toInt64 (iz v) ∧ ((0 ≤ p0 ∧ p0 < z 12) ∧ (1 ≤ p1 ∧ p1 ≤ 99999) ∧ ((p2 = 0 ∧ 0 ≤ Ez ((p0 + 1).toNat) 9 ∧ v = 0 ∧ Ez' ((p0 + 1).toNat) 9 = Ez ((p0 + 1).toNat) 9 ∧ Ez' ((p0 + 1).toNat) 4 = Ez ((p0 + 1).toNat) 4 ∧ EF' ((p0 + 1).toNat) 4 = EF ((p0 + 1).toNat) 4) ∨ (p2 = 0 ∧ Ez ((p0 + 1).toNat) 9 < 0 ∧ Ez ((p0 + 1).toNat) 4 < 20 ∧ v = 1 ∧ Ez' ((p0 + 1).toNat) 9 = Ez ((p0 + 1).toNat) 4 ∧ Ez' ((p0 + 1).toNat) 4 = Ez ((p0 + 1).toNat) 4 + 1 ∧ EF' ((p0 + 1).toNat) 4 (Ez ((p0 + 1).toNat) 4) = 100000 + p1) ∨ (¬ p2 = 0 ∧ v = 0 ∧ Ez' ((p0 + 1).toNat) 9 = Ez ((p0 + 1).toNat) 9 ∧ Ez' ((p0 + 1).toNat) 4 = Ez ((p0 + 1).toNat) 4 ∧ EF' ((p0 + 1).toNat) 4 = EF ((p0 + 1).toNat) 4 ∧ (0 ≤ Ez ((p0 + 1).toNat) 9 → Ez ((p0 + 1).toNat) 9 < Ez ((p0 + 1).toNat) 4 → 100000 + p1 < EF ((p0 + 1).toNat) 4 (Ez ((p0 + 1).toNat) 9))) ∨ (¬ p2 = 0 ∧ v = 1 ∧ 0 ≤ Ez ((p0 + 1).toNat) 9 ∧ (Ez ((p0 + 1).toNat) 9 < Ez ((p0 + 1).toNat) 4 → EF ((p0 + 1).toNat) 4 (Ez ((p0 + 1).toNat) 9) ≤ 100000 + p1) ∧ Ez' ((p0 + 1).toNat) 9 = -1 ∧ Ez' ((p0 + 1).toNat) 4 = Ez ((p0 + 1).toNat) 4 ∧ EF' ((p0 + 1).toNat) 4 = EF ((p0 + 1).toNat) 4)) ∧ (∀ j, j ≠ ((p0 + 1).toNat) → Ez' j = Ez j ∧ EF' j = EF j))) ∨ ((xFr [] [] z F z' F' ∧ eFr [] [] En Ez EF En' Ez' EF') ∧ ((q = 1 ∧ (¬ (0 ≤ p0 ∧ p0 < z 12))) ∨ (q = 2 ∧ ((0 ≤ p0 ∧ p0 < z 12) ∧ ¬ (1 ≤ p1 ∧ p1 ≤ 99999))) ∨ (q = 3 ∧ ((0 ≤ p0 ∧ p0 < z 12) ∧ (1 ≤ p1 ∧ p1 ≤ 99999) ∧ p2 = 0 ∧ Ez ((p0 + 1).toNat) 9 < 0 ∧ 20 ≤ Ez ((p0 + 1).toNat) 4))))) := by
  obtain ⟨hN, hc⟩ := hc
  rcases hc with ⟨c1, hx, he, v, c2, c3, -⟩ | c3
  · exact ⟨hN, Or.inl ⟨c1, hx, he, v, c2, c3⟩⟩
  · exact ⟨hN, Or.inr c3⟩
theorem wk_sign {p0 p1 : Int} (hc : N' = N ∧ ((q = 0 ∧ xFr [15, 16] [] z F z' F' ∧ eFr [0, 1, 2] [0, 1, 2] En Ez EF En' Ez' EF' ∧ ∃ v : Int, fo' 0 = Int32.toInt64 (iz v) ∧ (((((0 ≤ p0 ∧ p0 < z 12) ∧ (0 ≤ p1 ∧ p1 ≤ 255) ∧ Ez ((p0 + 1).toNat) 0 < 20 ∧ v = Ez ((p0 + 1).toNat) 0 + 1 ∧ Ez' ((p0 + 1).toNat) 0 = Ez ((p0 + 1).toNat) 0 + 1 ∧ (∀ j, j ≠ ((p0 + 1).toNat) → Ez' j = Ez j ∧ EF' j = EF j)) ∧ (iAdd 20 (Ez ((p0 + 1).toNat) 0) (EF ((p0 + 1).toNat) 0) (Ez' ((p0 + 1).toNat) 0) (EF' ((p0 + 1).toNat) 0) p1 ∧ iAdd 20 (Ez ((p0 + 1).toNat) 1) (EF ((p0 + 1).toNat) 1) (Ez' ((p0 + 1).toNat) 1) (EF' ((p0 + 1).toNat) 1) (kf_rk p1) ∧ kf_ls (EF' ((p0 + 1).toNat) 2) 0 (Ez' ((p0 + 1).toNat) 2).toNat = kf_kI (EF' ((p0 + 1).toNat) 0) (Ez' ((p0 + 1).toNat) 0) (z 13) (z 14) 0 0 0)) ∧ z' 15 = 0) ∧ z' 16 = -1)) ∨ ((xFr [] [] z F z' F' ∧ eFr [] [] En Ez EF En' Ez' EF') ∧ ((q = 1 ∧ (¬ (0 ≤ p0 ∧ p0 < z 12))) ∨ (q = 2 ∧ ((0 ≤ p0 ∧ p0 < z 12) ∧ (p1 < 0 ∨ 255 < p1))) ∨ (q = 3 ∧ ((0 ≤ p0 ∧ p0 < z 12) ∧ (0 ≤ p1 ∧ p1 ≤ 255) ∧ 20 ≤ Ez ((p0 + 1).toNat) 0)))))) : N' = N ∧ ((q = 0 ∧ xFr [15, 16] [] z F z' F' ∧ eFr [0, 1, 2] [0, 1, 2] En Ez EF En' Ez' EF' ∧ ∃ v : Int, fo' 0 = Int32.toInt64 (iz v) ∧ ((((0 ≤ p0 ∧ p0 < z 12) ∧ (0 ≤ p1 ∧ p1 ≤ 255) ∧ Ez ((p0 + 1).toNat) 0 < 20 ∧ v = Ez ((p0 + 1).toNat) 0 + 1 ∧ Ez' ((p0 + 1).toNat) 0 = Ez ((p0 + 1).toNat) 0 + 1 ∧ (∀ j, j ≠ ((p0 + 1).toNat) → Ez' j = Ez j ∧ EF' j = EF j)) ∧ (iAdd 20 (Ez ((p0 + 1).toNat) 0) (EF ((p0 + 1).toNat) 0) (Ez' ((p0 + 1).toNat) 0) (EF' ((p0 + 1).toNat) 0) p1 ∧ iAdd 20 (Ez ((p0 + 1).toNat) 1) (EF ((p0 + 1).toNat) 1) (Ez' ((p0 + 1).toNat) 1) (EF' ((p0 + 1).toNat) 1) (kf_rk p1) ∧ kf_ls (EF' ((p0 + 1).toNat) 2) 0 (Ez' ((p0 + 1).toNat) 2).toNat = kf_kI (EF' ((p0 + 1).toNat) 0) (Ez' ((p0 + 1).toNat) 0) (z 13) (z 14) 0 0 0)) ∧ z' 15 = 0)) ∨ ((xFr [] [] z F z' F' ∧ eFr [] [] En Ez EF En' Ez' EF') ∧ ((q = 1 ∧ (¬ (0 ≤ p0 ∧ p0 < z 12))) ∨ (q = 2 ∧ ((0 ≤ p0 ∧ p0 < z 12) ∧ (p1 < 0 ∨ 255 < p1))) ∨ (q = 3 ∧ ((0 ≤ p0 ∧ p0 < z 12) ∧ (0 ≤ p1 ∧ p1 ≤ 255) ∧ 20 ≤ Ez ((p0 + 1).toNat) 0))))) := by
  obtain ⟨hN, hc⟩ := hc
  rcases hc with ⟨c1, hx, he, v, c2, c3, -⟩ | c3
  · exact ⟨hN, Or.inl ⟨c1, hx, he, v, c2, c3⟩⟩
  · exact ⟨hN, Or.inr c3⟩
theorem wk_rule {p0 p1 : Int} (hc : N' = N ∧ ((q = 0 ∧ xFr [13, 14, 15, 16] [] z F z' F' ∧ eFr [2] [2] En Ez EF En' Ez' EF' ∧ ∃ v : Int, fo' 0 = Int32.toInt64 (iz v) ∧ (((((p0 = 0 ∧ v = z 13 ∧ z' 13 = p1 ∧ z' 14 = z 14) ∨ (p0 = 1 ∧ v = z 14 ∧ z' 14 = p1 ∧ z' 13 = z 13)) ∧ ((z' 13 = z 13 ∧ z' 14 = z 14 ∧ ∀ j, Ez' j = Ez j ∧ EF' j = EF j) ∨ (∀ j : Nat, 1 ≤ j → (j : Int) ≤ z 12 → kf_ls (EF' j 2) 0 (Ez' j 2).toNat = kf_kI (EF j 0) (Ez j 0) (z' 13) (z' 14) 0 0 0))) ∧ (z' 15 = 0 ∨ ((z' 15 = z 15 ∧ z' 13 = z 13 ∧ z' 14 = z 14 ∧ z' 1 = z 1) ∧ F' 1 = F 1 ∧ ∀ j, Ez' j = Ez j))) ∧ (z' 16 = -1 ∨ (z' 16 = z 16 ∧ z' 15 = z 15)))) ∨ ((xFr [] [] z F z' F' ∧ eFr [] [] En Ez EF En' Ez' EF') ∧ ((q = 1 ∧ (¬ p0 = 0 ∧ ¬ p0 = 1)))))) : N' = N ∧ ((q = 0 ∧ xFr [13, 14, 15, 16] [] z F z' F' ∧ eFr [2] [2] En Ez EF En' Ez' EF' ∧ ∃ v : Int, fo' 0 = Int32.toInt64 (iz v) ∧ ((((p0 = 0 ∧ v = z 13 ∧ z' 13 = p1 ∧ z' 14 = z 14) ∨ (p0 = 1 ∧ v = z 14 ∧ z' 14 = p1 ∧ z' 13 = z 13)) ∧ ((z' 13 = z 13 ∧ z' 14 = z 14 ∧ ∀ j, Ez' j = Ez j ∧ EF' j = EF j) ∨ (∀ j : Nat, 1 ≤ j → (j : Int) ≤ z 12 → kf_ls (EF' j 2) 0 (Ez' j 2).toNat = kf_kI (EF j 0) (Ez j 0) (z' 13) (z' 14) 0 0 0))) ∧ (z' 15 = 0 ∨ ((z' 15 = z 15 ∧ z' 13 = z 13 ∧ z' 14 = z 14 ∧ z' 1 = z 1) ∧ F' 1 = F 1 ∧ ∀ j, Ez' j = Ez j)))) ∨ ((xFr [] [] z F z' F' ∧ eFr [] [] En Ez EF En' Ez' EF') ∧ ((q = 1 ∧ (¬ p0 = 0 ∧ ¬ p0 = 1))))) := by
  obtain ⟨hN, hc⟩ := hc
  rcases hc with ⟨c1, hx, he, v, c2, c3, -⟩ | c3
  · exact ⟨hN, Or.inl ⟨c1, hx, he, v, c2, c3⟩⟩
  · exact ⟨hN, Or.inr c3⟩
theorem wk_row (hc : N' = N ∧ ((q = 0 ∧ xFr [0, 1, 2, 4, 5, 6, 7, 8, 9, 15, 16] [0, 1, 2, 4, 5, 6, 7, 8, 9] z F z' F' ∧ eFr [10] [] En Ez EF En' Ez' EF' ∧ ∃ v : Int, fo' 0 = Int32.toInt64 (iz v) ∧ (rs_RK z' F' Ez' (Fm 2) (Fm 3) (rs_wd Fm) (kf_oc I Fm) ∧ lo_K z' F' Ez' EF')) ∨ ((xFr [0, 1, 2, 4, 5, 6, 7, 8, 9, 15, 16] [0, 1, 2, 4, 5, 6, 7, 8, 9] z F z' F' ∧ eFr [10] [] En Ez EF En' Ez' EF' ∧ (rs_RK z' F' Ez' (Fm 2) (Fm 3) (rs_wd Fm) (kf_oc I Fm) ∧ lo_K z' F' Ez' EF')) ∧ ((q = 1 ∧ (True)))))) : N' = N ∧ ((q = 0 ∧ xFr [0, 1, 2, 4, 5, 6, 7, 8, 9, 15, 16] [0, 1, 2, 4, 5, 6, 7, 8, 9] z F z' F' ∧ eFr [10] [] En Ez EF En' Ez' EF' ∧ ∃ v : Int, fo' 0 = Int32.toInt64 (iz v) ∧ (rs_RK z' F' Ez' (Fm 2) (Fm 3) (rs_wd Fm) (kf_oc I Fm))) ∨ ((xFr [0, 1, 2, 4, 5, 6, 7, 8, 9, 15, 16] [0, 1, 2, 4, 5, 6, 7, 8, 9] z F z' F' ∧ eFr [10] [] En Ez EF En' Ez' EF' ∧ (rs_RK z' F' Ez' (Fm 2) (Fm 3) (rs_wd Fm) (kf_oc I Fm))) ∧ ((q = 1 ∧ (True))))) := by
  obtain ⟨hN, hc⟩ := hc
  rcases hc with ⟨c1, hx, he, v, c2, c3, -⟩ | ⟨⟨hx, he, c3, -⟩, c4⟩
  · exact ⟨hN, Or.inl ⟨c1, hx, he, v, c2, c3⟩⟩
  · exact ⟨hN, Or.inr ⟨⟨hx, he, c3⟩, c4⟩⟩
theorem wk_print (hc : N' = N ∧ ((q = 0 ∧ xFr [0, 1, 2, 4, 5, 6, 7, 8, 9, 10, 11, 15, 16, 22, 23] [0, 1, 2, 4, 5, 6, 7, 8, 9, 10, 11] z F z' F' ∧ eFr [10] [] En Ez EF En' Ez' EF' ∧ ∃ v : Int, fo' 0 = Int32.toInt64 (iz v) ∧ (rs_RK z' F' Ez' (Fm 2) (Fm 3) (rs_wd Fm) (kf_oc I Fm) ∧ lo_K z' F' Ez' EF')) ∨ ((xFr [0, 1, 2, 4, 5, 6, 7, 8, 9, 10, 11, 15, 16, 22, 23] [0, 1, 2, 4, 5, 6, 7, 8, 9, 10, 11] z F z' F' ∧ eFr [10] [] En Ez EF En' Ez' EF' ∧ (rs_RK z' F' Ez' (Fm 2) (Fm 3) (rs_wd Fm) (kf_oc I Fm) ∧ lo_K z' F' Ez' EF')) ∧ ((q = 1 ∧ (True)))))) : N' = N ∧ ((q = 0 ∧ xFr [0, 1, 2, 4, 5, 6, 7, 8, 9, 10, 11, 15, 16, 22, 23] [0, 1, 2, 4, 5, 6, 7, 8, 9, 10, 11] z F z' F' ∧ eFr [10] [] En Ez EF En' Ez' EF' ∧ ∃ v : Int, fo' 0 = Int32.toInt64 (iz v) ∧ (rs_RK z' F' Ez' (Fm 2) (Fm 3) (rs_wd Fm) (kf_oc I Fm))) ∨ ((xFr [0, 1, 2, 4, 5, 6, 7, 8, 9, 10, 11, 15, 16, 22, 23] [0, 1, 2, 4, 5, 6, 7, 8, 9, 10, 11] z F z' F' ∧ eFr [10] [] En Ez EF En' Ez' EF' ∧ (rs_RK z' F' Ez' (Fm 2) (Fm 3) (rs_wd Fm) (kf_oc I Fm))) ∧ ((q = 1 ∧ (True))))) := by
  obtain ⟨hN, hc⟩ := hc
  rcases hc with ⟨c1, hx, he, v, c2, c3, -⟩ | ⟨⟨hx, he, c3, -⟩, c4⟩
  · exact ⟨hN, Or.inl ⟨c1, hx, he, v, c2, c3⟩⟩
  · exact ⟨hN, Or.inr ⟨⟨hx, he, c3⟩, c4⟩⟩
theorem wk_entry {p0 p1 : Int} (hc : (q = 0 ∧ ∃ v : Int, fo' 0 = Int32.toInt64 (iz v) ∧ N' = N + 1 ∧ xFr [12, 15, 16] [] z F z' F' ∧ v = z 12 ∧ z' 12 = z 12 + 1 ∧ ((p0 = 0 ∧ p1 = -1) ∨ ((p0 = 1 ∨ p0 = 2) ∧ 0 ≤ p1 ∧ p1 < z 12 ∧ Ez ((p1 + 1).toNat) 7 = p0 - 1)) ∧ (∀ j, j < N → Ez' j = Ez j ∧ EF' j = EF j) ∧ Ez' N 7 = p0 ∧ Ez' N 0 = 0 ∧ Ez' N 4 = 0 ∧ Ez' N 9 = -1 ∧ Ez' N 1 = 0 ∧ Ez' N 2 = 0 ∧ Ez' N 3 = 0 ∧ Ez' N 8 = p1 ∧ Ez' N 5 = 0 ∧ Ez' N 6 = 0 ∧ z' 15 = 0 ∧ z' 16 = -1) ∨ ((N' = N ∧ xFr [] [] z F z' F' ∧ eFr [] [] En Ez EF En' Ez' EF' ∧ z' 12 = z 12) ∧ ((q = 1 ∧ (¬ p1 = -1 ∧ ¬ (0 ≤ p1 ∧ p1 < z 12))) ∨ (q = 2 ∧ ((p1 = -1 ∨ (0 ≤ p1 ∧ p1 < z 12)) ∧ ¬ ((p0 = 0 ∧ p1 = -1) ∨ ((p0 = 1 ∨ p0 = 2) ∧ 0 ≤ p1 ∧ p1 < z 12 ∧ Ez ((p1 + 1).toNat) 7 = p0 - 1))))))) : (q = 0 ∧ ∃ v : Int, fo' 0 = Int32.toInt64 (iz v) ∧ N' = N + 1 ∧ xFr [12, 15, 16] [] z F z' F' ∧ v = z 12 ∧ z' 12 = z 12 + 1 ∧ ((p0 = 0 ∧ p1 = -1) ∨ ((p0 = 1 ∨ p0 = 2) ∧ 0 ≤ p1 ∧ p1 < z 12 ∧ Ez ((p1 + 1).toNat) 7 = p0 - 1)) ∧ (∀ j, j < N → Ez' j = Ez j ∧ EF' j = EF j) ∧ Ez' N 7 = p0 ∧ Ez' N 0 = 0 ∧ Ez' N 4 = 0 ∧ Ez' N 9 = -1 ∧ Ez' N 1 = 0 ∧ Ez' N 2 = 0 ∧ Ez' N 3 = 0 ∧ Ez' N 8 = p1 ∧ z' 15 = 0) ∨ ((N' = N ∧ xFr [] [] z F z' F' ∧ eFr [] [] En Ez EF En' Ez' EF' ∧ z' 12 = z 12) ∧ ((q = 1 ∧ (¬ p1 = -1 ∧ ¬ (0 ≤ p1 ∧ p1 < z 12))) ∨ (q = 2 ∧ ((p1 = -1 ∨ (0 ≤ p1 ∧ p1 < z 12)) ∧ ¬ ((p0 = 0 ∧ p1 = -1) ∨ ((p0 = 1 ∨ p0 = 2) ∧ 0 ≤ p1 ∧ p1 < z 12 ∧ Ez ((p1 + 1).toNat) 7 = p0 - 1)))))) := by
  rcases hc with ⟨c1, v, c2, e1, hx, e2, e3, e4, hel, e5, e6, e7, e8, x1, x2, x3, x4, y5, y6, x5, x16⟩ | c3
  · exact Or.inl ⟨c1, v, c2, e1, hx, e2, e3, e4, hel, e5, e6, e7, e8, x1, x2, x3, x4, x5⟩
  · exact Or.inr c3
end PST
