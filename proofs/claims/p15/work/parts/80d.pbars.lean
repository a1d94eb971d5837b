/-! the bars, as they are found -/
theorem pt_ft_ok {f : Int → Int} {n k b : Int} (h0 : 0 ≤ k) (h : k < n) (e : f k = 37) (hf : pt_ft f n (n - k).toNat k b = -1) : (k + 1 < n ∧ pt_mk (f (k + 1))) ∧ pt_ft f n (n - (k + 2)).toNat (k + 2) b = -1 := by
  rw [pt_ft_st h, if_pos e] at hf
  by_cases c : k + 1 < n ∧ pt_mk (f (k + 1))
  · rw [if_pos c] at hf
    exact ⟨c, hf⟩
  · rw [if_neg c] at hf
    omega
def pt_FA (f : Int → Int) (n : Int) (B : Int → Int) (p : Int) : Prop := ((0 ≤ pt_st B p ∧ pt_st B p ≤ n) ∧ pt_nb f n (n - pt_st B p).toNat (pt_st B p) = B p) ∧ B p < n ∧ pt_ft f n (n - pt_st B p).toNat (pt_st B p) p = pt_ft f n n.toNat 0 0
def pt_FI (f : Int → Int) (n : Int) (B : Int → Int) (nb k : Int) : Prop := (∀ p, 0 ≤ p → p < nb → pt_FA f n B p) ∧ (0 ≤ pt_st B nb ∧ pt_st B nb ≤ k) ∧ pt_nb f n (n - pt_st B nb).toNat (pt_st B nb) = pt_nb f n (n - k).toNat k ∧ pt_ft f n (n - pt_st B nb).toNat (pt_st B nb) nb = pt_ft f n n.toNat 0 0
theorem pt_FI_0 (f : Int → Int) (n : Int) (B : Int → Int) : pt_FI f n B 0 0 := by
  refine ⟨fun p a b => absurd b (by omega), ?_, rfl, ?_⟩
  · show 0 ≤ (0 : Int) ∧ (0 : Int) ≤ 0
    omega
  · show pt_ft f n (n - 0).toNat 0 0 = _
    rw [Int.sub_zero]
theorem pt_FI_go {f : Int → Int} {n nb k k' : Int} {B : Int → Int} (h : pt_FI f n B nb k) (hk : k ≤ k') (hb : pt_nb f n (n - k).toNat k = pt_nb f n (n - k').toNat k') : pt_FI f n B nb k' := by
  obtain ⟨h1, h2, h3, h4⟩ := h
  exact ⟨h1, by omega, h3.trans hb, h4⟩
theorem pt_st_up {B : Int → Int} {nb k p : Int} (h : p ≤ nb) (h0 : 0 ≤ p) : pt_st (upI B nb k) p = pt_st B p := by
  unfold pt_st
  by_cases c : p = 0
  · rw [if_pos c, if_pos c]
  · rw [if_neg c, if_neg c, upI_ne _ _ (by omega)]
theorem pt_st_nx {B : Int → Int} {nb k : Int} (h0 : 0 ≤ nb) : pt_st (upI B nb k) (nb + 1) = k + 1 := by
  unfold pt_st
  rw [if_neg (by omega), show nb + 1 - 1 = nb by omega, upI_self]
theorem pt_FI_bar {f : Int → Int} {n nb k : Int} {B : Int → Int} (h : pt_FI f n B nb k) (hb : 0 ≤ nb) (hk : k < n) (e : f k = 124) (h3 : ¬ nb = 3) (hft : pt_ft f n n.toNat 0 0 = pt_ft f n (n - k).toNat k nb) : pt_FI f n (upI B nb k) (nb + 1) (k + 1) := by
  obtain ⟨h1, h2, h4, h5⟩ := h
  refine ⟨fun p a b => ?_, ?_, ?_, ?_⟩
  · by_cases c : p = nb
    · rw [c]
      unfold pt_FA
      rw [pt_st_up (Int.le_refl _) hb, upI_self]
      exact ⟨⟨by omega, by rw [h4]; exact pt_nb_bar hk e⟩, hk, h5⟩
    · have q := h1 p a (by omega)
      unfold pt_FA at q ⊢
      rw [pt_st_up (by omega) a, upI_ne _ _ c]
      exact q
  · rw [pt_st_nx hb]
    omega
  · rw [pt_st_nx hb]
  · rw [pt_st_nx hb, hft, pt_ft_bar hk e h3]
theorem pt_FI_end {f : Int → Int} {n k : Int} {B : Int → Int} (h : pt_FI f n B 3 k) (hk : k = n) (hft : pt_ft f n n.toNat 0 0 = -1) : pt_Br f n (upI B 3 n) := by
  obtain ⟨h1, h2, h4, h5⟩ := h
  refine ⟨fun p a b => ?_, fun p a b => ?_, upI_self _ _ _, fun p a b => ?_⟩
  · rw [pt_st_up b a]
    by_cases c : p = 3
    · rw [c, upI_self, h4, hk, pt_nb_end (Int.le_refl n)]
      exact ⟨by omega, rfl⟩
    · rw [upI_ne _ _ c]
      exact (h1 p a (by omega)).1
  · rw [upI_ne _ _ (by omega)]
    exact (h1 p a b).2.1
  · rw [pt_st_up b a]
    by_cases c : p = 3
    · rw [c, h5, hft]
    · rw [(h1 p a (by omega)).2.2, hft]
theorem pt_Br_fr {f f' : Int → Int} {n n' : Int} {B B' : Int → Int} (h : pt_Br f n B) (hf : f' = f) (hn : n' = n) (hB : B' = B) : pt_Br f' n' B' := by
  rw [hf, hn, hB]
  exact h
/-! what stays when the reference writes -/
section PFR
variable {I J : Nat → Int} {F G : Nat → Int → Int}
theorem lo_G_fr2 {n m : Int} (h : m = n) (h25 : G 25 = F 25) (h26 : G 26 = F 26) (h27 : G 27 = F 27) (h28 : G 28 = F 28) : lo_G m G = lo_G n F := by
  unfold lo_G
  rw [h, h25, h26, h27, h28]
theorem pt_wM_fr {e : Int} (f4 : G 4 = F 4) (f5 : G 5 = F 5) : pt_wM G e = pt_wM F e := by
  unfold pt_wM kf_sg
  rw [f4, f5]
theorem pt_pM_fr {n m r : Int} (hn : m = n) (f17 : G 17 = F 17) (f6 : G 6 = F 6) (f7 : G 7 = F 7) (f8 : G 8 = F 8) (f9 : G 9 = F 9) (f10 : G 10 = F 10) (f11 : G 11 = F 11) : pt_pM m G r = pt_pM n F r := by
  have e : lo_R G = lo_R F := funext (fun e => lo_R_fr f6 f7 f8 f9 f10 f11)
  unfold pt_pM
  rw [hn, f17, e]
theorem pt_sM_fr {n m r : Int} (hn : m = n) (f4 : G 4 = F 4) (f5 : G 5 = F 5) (f17 : G 17 = F 17) (f13 : G 13 = F 13) (f12 : G 12 = F 12) : pt_sM m G r = pt_sM n F r := by
  have e : pt_wM G = pt_wM F := funext (fun e => pt_wM_fr f4 f5)
  unfold pt_sM wr_se
  rw [hn, f17, f13, f12, e]
theorem pt_gM_fr {r : Int} (i14 : J 14 = I 14) (i15 : J 15 = I 15) (f2 : G 2 = F 2) (f3 : G 3 = F 3) (f17 : G 17 = F 17) (f4 : G 4 = F 4) (f5 : G 5 = F 5) : pt_gM J G r = pt_gM I F r := by
  unfold pt_gM kf_ky kf_sg
  rw [i14, i15, f2, f3, f17, f4, f5]
theorem pt_PM_fr {SI SF : List Nat} (h : mfr SI SF I F J G) (hi : 1 ∉ SI ∧ 14 ∉ SI ∧ 15 ∉ SI ∧ 37 ∉ SI) (hf : 2 ∉ SF ∧ 3 ∉ SF ∧ 4 ∉ SF ∧ 5 ∉ SF ∧ 6 ∉ SF ∧ 7 ∉ SF ∧ 8 ∉ SF ∧ 9 ∉ SF ∧ 10 ∉ SF ∧ 11 ∉ SF ∧ 12 ∉ SF ∧ 13 ∉ SF ∧ 17 ∉ SF ∧ 18 ∉ SF ∧ 36 ∉ SF) : pt_PM J G = pt_PM I F ∧ pt_gM J G = pt_gM I F ∧ pt_aM J G = pt_aM I F := by
  obtain ⟨i1, i14, i15, i37⟩ := hi
  obtain ⟨f2, f3, f4, f5, f6, f7, f8, f9, f10, f11, f12, f13, f17, f18, f36⟩ := hf
  have ew : pt_wM G = pt_wM F := funext (fun e => pt_wM_fr (h.2 4 f4) (h.2 5 f5))
  have ep : pt_pM (J 1) G = pt_pM (I 1) F := funext (fun r => pt_pM_fr (h.1 1 i1) (h.2 17 f17) (h.2 6 f6) (h.2 7 f7) (h.2 8 f8) (h.2 9 f9) (h.2 10 f10) (h.2 11 f11))
  have es : pt_sM (J 1) G = pt_sM (I 1) F := funext (fun r => pt_sM_fr (h.1 1 i1) (h.2 4 f4) (h.2 5 f5) (h.2 17 f17) (h.2 13 f13) (h.2 12 f12))
  have eg : pt_gM J G = pt_gM I F := funext (fun r => pt_gM_fr (h.1 14 i14) (h.1 15 i15) (h.2 2 f2) (h.2 3 f3) (h.2 17 f17) (h.2 4 f4) (h.2 5 f5))
  have eP : pt_PM J G = pt_PM I F := by
    unfold pt_PM
    rw [ew, ep, es, eg, h.2 36 f36, h.1 37 i37]
  refine ⟨eP, eg, ?_⟩
  unfold pt_aM
  rw [eP, eg, h.2 2 f2, h.2 18 f18]
end PFR
