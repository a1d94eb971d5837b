/-! the reference between calls, after k calls -/
def mFr0 (I : Nat → Int) (F : Nat → Int → Int) : Prop := ∀ e, I 1 ≤ e → F 5 e = 0 ∧ F 10 e = 0 ∧ F 11 e = 0 ∧ F 13 e = 0
def mIk (k : Int) (I : Nat → Int) (F : Nat → Int → Int) : Prop := mIv I F ∧ (I 1 ≤ k ∧ I 37 ≤ k ∧ sumI (F 13) (I 1).toNat ≤ k) ∧ mFr0 I F ∧ ((I 14 = 0 ∨ I 14 = 1) ∧ (I 15 = 0 ∨ I 15 = 1))
section MIK
variable {I J : Nat → Int} {F G : Nat → Int → Int} {k : Int}
theorem mIk.up (h : mIk k I F) : mIk (k + 1) I F := ⟨h.1, ⟨by have := h.2.1; omega, by have := h.2.1; omega, by have := h.2.1; omega⟩, h.2.2⟩
theorem mIk.ask (h : mIk k I F) (hw : mWk I F J G) : mIk (k + 1) J G := by
  have hf := hw.2.1
  have e1 := hf.1 1 (by decide)
  have e37 := hf.1 37 (by decide)
  have e14 := hf.1 14 (by decide)
  have e15 := hf.1 15 (by decide)
  have f13 := hf.2 13 (by decide)
  have f5 := hf.2 5 (by decide)
  have f10 := hf.2 10 (by decide)
  have f11 := hf.2 11 (by decide)
  obtain ⟨h1, h2, h3, h4⟩ := h
  refine ⟨h1.go hw, ?_, ?_, ?_⟩
  · rw [e1, e37, f13]; omega
  · intro e he
    rw [f5, f10, f11, f13]
    rw [e1] at he
    exact h3 e he
  · rw [e14, e15]; exact h4
theorem mIk.thr (h : mIk k I F) {v : Int} (hv : 0 ≤ v ∧ v ≤ 3) : mIk (k + 1) (va_up I 0 v) F := h.ask (mWk.thr h.1 hv).1
theorem mIk.entry (h : mIk k I F) (hk : k < 64) {lv ab : Int} (h1 : (lv = 0 ∧ ab = -1) ∨ ((lv = 1 ∨ lv = 2) ∧ 0 ≤ ab ∧ ab < I 1 ∧ F 2 ab = lv - 1)) :
    mIk (k + 1) (va_up (va_up (va_up I 0 0) 16 0) 1 (I 1 + 1)) (va_up (va_up F 2 (upI (F 2) (I 1) lv)) 3 (upI (F 3) (I 1) ab)) := by
  obtain ⟨⟨hB, hc, hn, hln, hmy, hmf, hlv, hse, hsu, hst, hk01, hkn, hps, hmd⟩, h2, h3, h4⟩ := h
  refine ⟨⟨?_, ?_, hn, hln, hmy, hmf, ?_, ?_, ?_, hst, Or.inl rfl, ?_, hps, hmd⟩, ⟨?_, ?_, ?_⟩, ?_, h4⟩
  · exact mB_f (mB_f (mB_i (mB_i (mB_i hB 0 (by omega) (by omega)) 16 (by omega) (by omega)) 1 (by omega) (by omega)) 2 (I 1) (by omega) (by omega)) 3 (I 1) (by omega) (by omega)
  · show 0 ≤ I 1 + 1 ∧ I 1 + 1 ≤ 64
    omega
  · intro e e1 e2
    have e2' : e < I 1 + 1 := e2
    show 0 ≤ upI (F 2) (I 1) lv e ∧ upI (F 2) (I 1) lv e ≤ 2 ∧ (upI (F 2) (I 1) lv e = 0 ∨ (0 ≤ upI (F 3) (I 1) ab e ∧ upI (F 3) (I 1) ab e < e ∧ upI (F 2) (I 1) lv (upI (F 3) (I 1) ab e) = upI (F 2) (I 1) lv e - 1))
    by_cases c : e = I 1
    · rw [c, upI_self, upI_self]
      rcases h1 with ⟨a1, a2⟩ | ⟨a1, a2, a3, a4⟩
      · omega
      · rw [upI_ne _ _ (show ab ≠ I 1 by omega)]
        omega
    · have q := hlv e e1 (by omega)
      rw [upI_ne _ _ c, upI_ne _ _ c]
      rcases q with ⟨q1, q2, q3 | ⟨q3, q4, q5⟩⟩
      · exact ⟨q1, q2, Or.inl q3⟩
      · rw [upI_ne _ _ (show F 3 e ≠ I 1 by omega)]
        exact ⟨q1, q2, Or.inr ⟨q3, q4, q5⟩⟩
  · intro e j e1 e2 e3 e4
    have e2' : e < I 1 + 1 := e2
    have e4' : j < F 13 e := e4
    show 0 ≤ F 12 (5 * e + j) ∧ F 12 (5 * e + j) < I 1 + 1
    by_cases c : e = I 1
    · have := (h3 e (by omega)).2.2.2
      omega
    · have := hse e j e1 (by omega) e3 e4'
      omega
  · show sumI (F 13) (I 1 + 1).toNat ≤ 64
    rw [sumI_succ _ hc.1, (h3 (I 1) (Int.le_refl _)).2.2.2]
    omega
  · intro q
    exact absurd (show (0 : Int) = 1 from q) (by decide)
  · show I 1 + 1 ≤ k + 1
    omega
  · show I 37 ≤ k + 1
    omega
  · show sumI (F 13) (I 1 + 1).toNat ≤ k + 1
    rw [sumI_succ _ hc.1, (h3 (I 1) (Int.le_refl _)).2.2.2]
    omega
  · intro e he
    have he' : I 1 + 1 ≤ e := he
    exact h3 e (by omega)
theorem mIk.sign (h : mIk k I F) {p0 p1 : Int} (h0 : 0 ≤ p0 ∧ p0 < I 1) (h1 : 0 ≤ p1 ∧ p1 ≤ 255) (h20 : ¬ F 5 p0 = 20) :
    mIk (k + 1) (va_up (va_up I 0 0) 16 0) (va_up (va_up F 4 (upI (F 4) (20 * p0 + F 5 p0) p1)) 5 (upI (F 5) p0 (F 5 p0 + 1))) := by
  obtain ⟨⟨hB, hc, hn, hln, hmy, hmf, hlv, hse, hsu, hst, hk01, hkn, hps, hmd⟩, h2, h3, h4⟩ := h
  have hp := hn p0
  refine ⟨⟨?_, hc, ?_, hln, hmy, hmf, hlv, hse, hsu, hst, Or.inl rfl, ?_, hps, hmd⟩, ⟨?_, ?_, ?_⟩, ?_, h4⟩
  · exact mB_f (mB_f (mB_i (mB_i hB 0 (by omega) (by omega)) 16 (by omega) (by omega)) 4 _ (by omega) (by omega)) 5 _ (by omega) (by omega)
  · intro e
    show 0 ≤ upI (F 5) p0 (F 5 p0 + 1) e ∧ upI (F 5) p0 (F 5 p0 + 1) e ≤ 20
    by_cases c : e = p0
    · rw [c, upI_self]; omega
    · rw [upI_ne _ _ c]; exact hn e
  · intro q
    exact absurd (show (0 : Int) = 1 from q) (by decide)
  · show I 1 ≤ k + 1
    omega
  · show I 37 ≤ k + 1
    omega
  · show sumI (F 13) (I 1).toNat ≤ k + 1
    omega
  · intro e he
    have he' : I 1 ≤ e := he
    have q := h3 e he'
    refine ⟨?_, q.2⟩
    show upI (F 5) p0 (F 5 p0 + 1) e = 0
    rw [upI_ne _ _ (show e ≠ p0 by omega)]
    exact q.1
theorem mIk.rule (h : mIk k I F) {a b : Int} (ha : a = 0 ∨ a = 1) (hb : b = 0 ∨ b = 1) : mIk (k + 1) (va_up (va_up (va_up (va_up I 0 0) 14 a) 15 b) 16 0) F := by
  obtain ⟨⟨hB, hc, hn, hln, hmy, hmf, hlv, hse, hsu, hst, hk01, hkn, hps, hmd⟩, h2, h3, h4⟩ := h
  refine ⟨⟨?_, hc, hn, hln, hmy, hmf, hlv, hse, hsu, hst, Or.inl rfl, ?_, hps, hmd⟩, ⟨?_, ?_, ?_⟩, h3, ha, hb⟩
  · exact mB_i (mB_i (mB_i (mB_i hB 0 (by omega) (by omega)) 14 (by omega) (by omega)) 15 (by omega) (by omega)) 16 (by omega) (by omega)
  · intro q
    exact absurd (show (0 : Int) = 1 from q) (by decide)
  · show I 1 ≤ k + 1
    omega
  · show I 37 ≤ k + 1
    omega
  · show sumI (F 13) (I 1).toNat ≤ k + 1
    omega
theorem mIk.styled (h : mIk k I F) (hk : k < 64) {v : Int} (hv : 0 ≤ v ∧ v ≤ I 37 + 1) : mIk (k + 1) (va_up (va_up I 0 0) 37 v) F := by
  obtain ⟨⟨hB, hc, hn, hln, hmy, hmf, hlv, hse, hsu, hst, hk01, hkn, hps, hmd⟩, h2, h3, h4⟩ := h
  refine ⟨⟨?_, hc, hn, hln, hmy, hmf, hlv, hse, hsu, ?_, hk01, hkn, hps, hmd⟩, ⟨?_, ?_, ?_⟩, h3, h4⟩
  · exact mB_i (mB_i hB 0 (by omega) (by omega)) 37 (by omega) (by omega)
  · show 0 ≤ v ∧ v ≤ 64
    omega
  · show I 1 ≤ k + 1
    omega
  · show v ≤ k + 1
    omega
  · show sumI (F 13) (I 1).toNat ≤ k + 1
    omega
theorem mIk.f36 (h : mIk k I F) (i : Int) {v : Int} (hv : 0 ≤ v ∧ v ≤ 127) : mIk k I (va_up F 36 (upI (F 36) i v)) := by
  obtain ⟨⟨hB, hc, hn, hln, hmy, hmf, hlv, hse, hsu, hst, hk01, hkn, hps, hmd⟩, h2, h3, h4⟩ := h
  exact ⟨⟨mB_f hB 36 i (by omega) (by omega), hc, hn, hln, hmy, hmf, hlv, hse, hsu, hst, hk01, hkn, hps, hmd⟩, h2, h3, h4⟩
/-- page, and a range that ends: what is kept -/
theorem mIk.keep (h : mIk k I F) {p0 kd fr to rg : Int} (h0 : 0 ≤ p0 ∧ p0 < I 1) (hkd : -2147483648 ≤ kd ∧ kd < 2147483648) (h1 : 0 ≤ fr ∧ fr ≤ to ∧ to ≤ 99999) (hle : F 10 p0 + 1 + (if 0 < F 11 p0 then 1 else 0) ≤ 20) :
    mIk (k + 1) (va_up I 0 0) (va_up (va_up (va_up (va_up (va_up F 6 (upI (F 6) (20 * p0 + F 10 p0) kd)) 7 (upI (F 7) (20 * p0 + F 10 p0) fr)) 8 (upI (F 8) (20 * p0 + F 10 p0) to)) 9 (upI (F 9) (20 * p0 + F 10 p0) (vp_nar .boolean (iz rg)).toInt)) 10 (upI (F 10) p0 (F 10 p0 + 1))) := by
  obtain ⟨⟨hB, hc, hn, hln, hmy, hmf, hlv, hse, hsu, hst, hk01, hkn, hps, hmd⟩, h2, h3, h4⟩ := h
  have hp := hln p0
  refine ⟨⟨?_, hc, hn, ?_, hmy, ?_, hlv, hse, hsu, hst, hk01, hkn, hps, hmd⟩, ⟨?_, ?_, ?_⟩, ?_, h4⟩
  · exact mB_f (mB_f (mB_f (mB_f (mB_f (mB_i hB 0 (by omega) (by omega)) 6 _ hkd.1 hkd.2) 7 _ (by omega) (by omega)) 8 _ (by omega) (by omega)) 9 _ (iz_lo _) (iz_hi _)) 10 _ (by omega) (by split at hle <;> omega)
  · intro e
    show 0 ≤ upI (F 10) p0 (F 10 p0 + 1) e ∧ 0 ≤ F 11 e ∧ F 11 e ≤ 99999 ∧ upI (F 10) p0 (F 10 p0 + 1) e + (if 0 < F 11 e then 1 else 0) ≤ 20
    by_cases c : e = p0
    · rw [c, upI_self]
      exact ⟨by omega, hp.2.1, hp.2.2.1, hle⟩
    · rw [upI_ne _ _ c]; exact hln e
  · intro j
    show 0 ≤ upI (F 7) (20 * p0 + F 10 p0) fr j ∧ upI (F 7) (20 * p0 + F 10 p0) fr j ≤ upI (F 8) (20 * p0 + F 10 p0) to j ∧ upI (F 8) (20 * p0 + F 10 p0) to j ≤ 99999
    by_cases c : j = 20 * p0 + F 10 p0
    · rw [c, upI_self, upI_self]; exact h1
    · rw [upI_ne _ _ c, upI_ne _ _ c]; exact hmf j
  · show I 1 ≤ k + 1
    omega
  · show I 37 ≤ k + 1
    omega
  · show sumI (F 13) (I 1).toNat ≤ k + 1
    omega
  · intro e he
    have he' : I 1 ≤ e := he
    have q := h3 e he'
    refine ⟨q.1, ?_, q.2.2⟩
    show upI (F 10) p0 (F 10 p0 + 1) e = 0
    rw [upI_ne _ _ (show e ≠ p0 by omega)]
    exact q.2.1
theorem mIk.opn (h : mIk k I F) {p0 v : Int} (h0 : 0 ≤ p0 ∧ p0 < I 1) (hv : 0 ≤ v ∧ v ≤ 99999) (hle : F 10 p0 + (if 0 < v then 1 else 0) ≤ 20) : mIk k I (va_up F 11 (upI (F 11) p0 v)) := by
  obtain ⟨⟨hB, hc, hn, hln, hmy, hmf, hlv, hse, hsu, hst, hk01, hkn, hps, hmd⟩, h2, h3, h4⟩ := h
  have hp := hln p0
  refine ⟨⟨?_, hc, hn, ?_, hmy, hmf, hlv, hse, hsu, hst, hk01, hkn, hps, hmd⟩, h2, ?_, h4⟩
  · exact mB_f hB 11 _ (by omega) (by omega)
  · intro e
    show 0 ≤ F 10 e ∧ 0 ≤ upI (F 11) p0 v e ∧ upI (F 11) p0 v e ≤ 99999 ∧ F 10 e + (if 0 < upI (F 11) p0 v e then 1 else 0) ≤ 20
    by_cases c : e = p0
    · rw [c, upI_self]
      exact ⟨hp.1, hv.1, hv.2, hle⟩
    · rw [upI_ne _ _ c]; exact hln e
  · intro e he
    have q := h3 e he
    refine ⟨q.1, q.2.1, ?_, q.2.2.2⟩
    show upI (F 11) p0 v e = 0
    rw [upI_ne _ _ (show e ≠ p0 by omega)]
    exact q.2.2.1
/-- a range that ends: kept, and no longer begun -/
theorem mIk.keepEnd (h : mIk k I F) {p0 p1 : Int} (h0 : 0 ≤ p0 ∧ p0 < I 1) (h1 : 1 ≤ p1 ∧ p1 ≤ 99999) (h2 : F 11 p0 ≤ p1) (h3 : 0 < F 11 p0) (hle : F 10 p0 + 1 + 0 ≤ 20) :
    mIk (k + 1) (va_up I 0 0) (va_up (va_up (va_up (va_up (va_up (va_up F 6 (upI (F 6) (20 * p0 + F 10 p0) 1)) 7 (upI (F 7) (20 * p0 + F 10 p0) (F 11 p0))) 8 (upI (F 8) (20 * p0 + F 10 p0) p1)) 9 (upI (F 9) (20 * p0 + F 10 p0) (vp_nar .boolean (iz 1)).toInt)) 10 (upI (F 10) p0 (F 10 p0 + 1))) 11 (upI (F 11) p0 0)) := by
  obtain ⟨⟨hB, hc, hn, hln, hmy, hmf, hlv, hse, hsu, hst, hk01, hkn, hps, hmd⟩, h2', h3', h4⟩ := h
  have hp := hln p0
  refine ⟨⟨?_, hc, hn, ?_, hmy, ?_, hlv, hse, hsu, hst, hk01, hkn, hps, hmd⟩, ⟨?_, ?_, ?_⟩, ?_, h4⟩
  · exact mB_f (mB_f (mB_f (mB_f (mB_f (mB_f (mB_i hB 0 (by omega) (by omega)) 6 _ (by omega) (by omega)) 7 _ (by omega) (by omega)) 8 _ (by omega) (by omega)) 9 _ (iz_lo _) (iz_hi _)) 10 _ (by omega) (by omega)) 11 _ (by omega) (by omega)
  · intro e
    show 0 ≤ upI (F 10) p0 (F 10 p0 + 1) e ∧ 0 ≤ upI (F 11) p0 0 e ∧ upI (F 11) p0 0 e ≤ 99999 ∧ upI (F 10) p0 (F 10 p0 + 1) e + (if 0 < upI (F 11) p0 0 e then 1 else 0) ≤ 20
    by_cases c : e = p0
    · rw [c, upI_self, upI_self, if_neg (by omega)]
      omega
    · rw [upI_ne _ _ c, upI_ne _ _ c]; exact hln e
  · intro j
    show 0 ≤ upI (F 7) (20 * p0 + F 10 p0) (F 11 p0) j ∧ upI (F 7) (20 * p0 + F 10 p0) (F 11 p0) j ≤ upI (F 8) (20 * p0 + F 10 p0) p1 j ∧ upI (F 8) (20 * p0 + F 10 p0) p1 j ≤ 99999
    by_cases c : j = 20 * p0 + F 10 p0
    · rw [c, upI_self, upI_self]; omega
    · rw [upI_ne _ _ c, upI_ne _ _ c]; exact hmf j
  · show I 1 ≤ k + 1
    omega
  · show I 37 ≤ k + 1
    omega
  · show sumI (F 13) (I 1).toNat ≤ k + 1
    omega
  · intro e he
    have he' : I 1 ≤ e := he
    have q := h3' e he'
    refine ⟨q.1, ?_, ?_, q.2.2.2⟩
    · show upI (F 10) p0 (F 10 p0 + 1) e = 0
      rw [upI_ne _ _ (show e ≠ p0 by omega)]
      exact q.2.1
    · show upI (F 11) p0 0 e = 0
      rw [upI_ne _ _ (show e ≠ p0 by omega)]
      exact q.2.2.1
theorem sumI_up (g : Int → Int) (i v : Int) : ∀ n : Nat, sumI (upI g i v) n = sumI g n + (if 0 ≤ i ∧ i < (n : Int) then v - g i else 0)
  | 0 => by
    rw [if_neg (by omega)]
    rfl
  | n + 1 => by
    show sumI (upI g i v) n + upI g i v n = sumI g n + g n + _
    rw [sumI_up g i v n]
    by_cases c : (n : Int) = i
    · subst c
      rw [upI_self, if_neg (by omega), if_pos (by omega)]
      omega
    · rw [upI_ne _ _ c]
      by_cases d : 0 ≤ i ∧ i < (n : Int)
      · rw [if_pos d, if_pos (by omega)]
        omega
      · rw [if_neg d, if_neg (by omega)]
        omega
theorem mIk.see (h : mIk k I F) (hk : k < 64) {p0 p1 : Int} (h0 : 0 ≤ p0 ∧ p0 < I 1) (h1 : 0 ≤ p1 ∧ p1 < I 1) (h5 : F 13 p0 < 5) :
    mIk (k + 1) (va_up I 0 0) (va_up (va_up F 12 (upI (F 12) (5 * p0 + F 13 p0) p1)) 13 (upI (F 13) p0 (F 13 p0 + 1))) := by
  obtain ⟨⟨hB, hc, hn, hln, hmy, hmf, hlv, hse, hsu, hst, hk01, hkn, hps, hmd⟩, h2, h3, h4⟩ := h
  have hp := hmy p0
  have hs : sumI (upI (F 13) p0 (F 13 p0 + 1)) (I 1).toNat = sumI (F 13) (I 1).toNat + 1 := by
    rw [sumI_up, if_pos (by omega)]
    omega
  refine ⟨⟨?_, hc, hn, hln, ?_, hmf, hlv, ?_, ?_, hst, hk01, hkn, hps, hmd⟩, ⟨?_, ?_, ?_⟩, ?_, h4⟩
  · exact mB_f (mB_f (mB_i hB 0 (by omega) (by omega)) 12 _ (by omega) (by omega)) 13 _ (by omega) (by omega)
  · intro e
    show 0 ≤ upI (F 13) p0 (F 13 p0 + 1) e ∧ upI (F 13) p0 (F 13 p0 + 1) e ≤ 5
    by_cases c : e = p0
    · rw [c, upI_self]; omega
    · rw [upI_ne _ _ c]; exact hmy e
  · intro e j e1 e2 e3 e4
    have e4' : j < upI (F 13) p0 (F 13 p0 + 1) e := e4
    have e2' : e < I 1 := e2
    show 0 ≤ upI (F 12) (5 * p0 + F 13 p0) p1 (5 * e + j) ∧ upI (F 12) (5 * p0 + F 13 p0) p1 (5 * e + j) < I 1
    by_cases c : 5 * e + j = 5 * p0 + F 13 p0
    · rw [c, upI_self]; exact h1
    · rw [upI_ne _ _ c]
      by_cases d : e = p0
      · subst d
        rw [upI_self] at e4'
        exact hse e j e1 e2' e3 (by omega)
      · rw [upI_ne _ _ d] at e4'
        exact hse e j e1 e2' e3 e4'
  · show sumI (upI (F 13) p0 (F 13 p0 + 1)) (I 1).toNat ≤ 64
    omega
  · show I 1 ≤ k + 1
    omega
  · show I 37 ≤ k + 1
    omega
  · show sumI (upI (F 13) p0 (F 13 p0 + 1)) (I 1).toNat ≤ k + 1
    omega
  · intro e he
    have he' : I 1 ≤ e := he
    have q := h3 e he'
    refine ⟨q.1, q.2.1, q.2.2.1, ?_⟩
    show upI (F 13) p0 (F 13 p0 + 1) e = 0
    rw [upI_ne _ _ (show e ≠ p0 by omega)]
    exact q.2.2.2
end MIK
