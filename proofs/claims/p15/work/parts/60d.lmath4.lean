/-! the reference's rows: one is put in by moving the others on -/
def lo_sf (F G : Int → Int) (m k : Int) : Prop := (∀ i, 0 ≤ i → i < k → G i = F i) ∧ ∀ i, k < i → i ≤ m → G i = F (i - 1)
theorem lo_sf_0 (F : Int → Int) (m : Int) : lo_sf F F m m := ⟨fun _ _ _ => rfl, fun i a b => absurd b (by omega)⟩
theorem lo_sf_st {F G : Int → Int} {m k v : Int} (h : lo_sf F G m k) (h1 : 1 ≤ k) (hv : v = G (k - 1)) : lo_sf F (upI G k v) m (k - 1) := by
  obtain ⟨a, c⟩ := h
  refine ⟨fun i x y => ?_, fun i x y => ?_⟩
  · rw [upI_ne _ _ (by omega)]; exact a i x (by omega)
  · by_cases e : i = k
    · rw [e, upI_self, hv]; exact a (k - 1) (by omega) (by omega)
    · rw [upI_ne _ _ e]; exact c i (by omega) y
theorem lo_sf_end {F G : Int → Int} {m k x : Int} (h : lo_sf F G m k) (h1 : 0 ≤ k) (h2 : k ≤ m) : lo_sh (upI F m x) (upI G k x) m k := by
  obtain ⟨a, c⟩ := h
  refine ⟨fun i p q => ?_, by rw [upI_self, upI_self], fun i p q => ?_⟩
  · rw [upI_ne _ _ (by omega), upI_ne _ _ (by omega)]; exact a i p q
  · rw [upI_ne _ _ (by omega), upI_ne _ _ (by omega)]; exact c i p q
/-- kind and number make a place -/
def lo_pp (f g : Int → Int) : Int → Int := fun i => 100000 * f i + g i
theorem lo_sh_pp {F F2 G G2 : Int → Int} {m k : Int} (h : lo_sh F G m k) (h2 : lo_sh F2 G2 m k) : lo_sh (lo_pp F F2) (lo_pp G G2) m k := by
  refine ⟨fun i p q => ?_, ?_, fun i p q => ?_⟩
  · show 100000 * G i + G2 i = 100000 * F i + F2 i; rw [h.1 i p q, h2.1 i p q]
  · show 100000 * G k + G2 k = 100000 * F m + F2 m; rw [h.2.1, h2.2.1]
  · show 100000 * G i + G2 i = 100000 * F (i - 1) + F2 (i - 1); rw [h.2.2 i p q, h2.2.2 i p q]
/-- what is gathered so far -/
def lo_G (n : Int) (F : Nat → Int → Int) : List lo_T := lo_ls (lo_pp (F 25) (F 26)) (lo_pp (F 25) (F 27)) (F 28) n.toNat 0
theorem lo_G_fr {n : Int} {F G : Nat → Int → Int} (h1 : G 25 = F 25) (h2 : G 26 = F 26) (h3 : G 27 = F 27) (h4 : G 28 = F 28) : lo_G n G = lo_G n F := by unfold lo_G; rw [h1, h2, h3, h4]
/-- one is taken -/
theorem lo_G_in {F G H : Nat → Int → Int} {m ap kd fr to rg : Int} (h0 : 0 ≤ m) (s25 : lo_sf (F 25) (G 25) m ap) (s26 : lo_sf (F 26) (G 26) m ap) (s27 : lo_sf (F 27) (G 27) m ap) (s28 : lo_sf (F 28) (G 28) m ap) (e25 : H 25 = upI (G 25) ap kd) (e26 : H 26 = upI (G 26) ap fr) (e27 : H 27 = upI (G 27) ap to) (e28 : H 28 = upI (G 28) ap rg) (a : 0 ≤ ap) (b : ap ≤ m) (hl : ap = 0 ∨ lo_pp (F 25) (F 26) (ap - 1) ≤ 100000 * kd + fr) (hr : ∀ i, ap ≤ i → i < m → 100000 * kd + fr < lo_pp (F 25) (F 26) i) : lo_X (lo_G m F) [(100000 * kd + fr, 100000 * kd + to, rg)] (lo_G (m + 1) H) := by
  have t25 := lo_sf_end (x := kd) s25 a b
  have t26 := lo_sf_end (x := fr) s26 a b
  have t27 := lo_sf_end (x := to) s27 a b
  have t28 := lo_sf_end (x := rg) s28 a b
  rw [← e25] at t25
  rw [← e26] at t26
  rw [← e27] at t27
  rw [← e28] at t28
  have e1 : lo_pp (upI (F 25) m kd) (upI (F 26) m fr) m = 100000 * kd + fr := by show 100000 * upI (F 25) m kd m + upI (F 26) m fr m = _; rw [upI_self, upI_self]
  have e2 : lo_pp (upI (F 25) m kd) (upI (F 27) m to) m = 100000 * kd + to := by show 100000 * upI (F 25) m kd m + upI (F 27) m to m = _; rw [upI_self, upI_self]
  have ne : ∀ {f g : Int → Int} {x y j : Int}, j < m → lo_pp (upI f m x) (upI g m y) j = lo_pp f g j := fun {f g x y j} hj => by show 100000 * upI f m x j + upI g m y j = _; rw [upI_ne _ _ (by omega), upI_ne _ _ (by omega)]; rfl
  have q := lo_X_step (G1 := lo_pp (F 25) (F 26)) (G2 := lo_pp (F 25) (F 27)) (G3 := F 28) (lo_X_nil (lo_G m F)) h0 (fun j _ c => ne c) (fun j _ c => ne c) (fun j _ c => upI_ne _ _ (by omega)) e1 e2 (upI_self (F 28) m rg) a b (lo_sh_pp t25 t26) (lo_sh_pp t25 t27) t28 (by
      rcases hl with hl | hl
      · exact Or.inl hl
      · by_cases c : ap = 0
        · exact Or.inl c
        · exact Or.inr (by rw [ne (by omega), e1]; exact hl)) (fun i c d => by rw [ne d, e1]; exact hr i c d)
  exact q
/-- what the reference keeps of an entry -/
def lo_Rf (F : Nat → Int → Int) (e : Int) : Int → Int := fun i => 100000 * F 6 (20 * e + i) + F 7 (20 * e + i)
def lo_Rt (F : Nat → Int → Int) (e : Int) : Int → Int := fun i => 100000 * F 6 (20 * e + i) + F 8 (20 * e + i)
def lo_Rr (F : Nat → Int → Int) (e : Int) : Int → Int := fun i => F 9 (20 * e + i)
def lo_Ro (F : Nat → Int → Int) (e : Int) : List lo_T := if 0 < F 11 e then [(100000 * 1 + F 11 e, 100000 * 1 + F 11 e, 0)] else []
def lo_R (F : Nat → Int → Int) (e : Int) : List lo_T := lo_ls (lo_Rf F e) (lo_Rt F e) (lo_Rr F e) (F 10 e).toNat 0 ++ lo_Ro F e
theorem lo_R_fr {F G : Nat → Int → Int} {e : Int} (h6 : G 6 = F 6) (h7 : G 7 = F 7) (h8 : G 8 = F 8) (h9 : G 9 = F 9) (h10 : G 10 = F 10) (h11 : G 11 = F 11) : lo_R G e = lo_R F e := by unfold lo_R lo_Rf lo_Rt lo_Rr lo_Ro; rw [h6, h7, h8, h9, h10, h11]
theorem lo_ls_sub {f g h : Int → Int} {m n : Nat} {x : lo_T} (hx : x ∈ lo_ls f g h m 0) (hm : m ≤ n) : x ∈ lo_ls f g h n 0 := by
  rw [show n = m + (n - m) by omega, lo_ls_app]
  exact List.mem_append.mpr (Or.inl hx)
theorem lo_R_all {F : Nat → Int → Int} {n p0 ev k : Int} (hRv : ∀ e, 0 ≤ e → e < n → ∀ x, x ∈ lo_R F e → lo_v x) (h0 : 0 ≤ ev) (h1 : ev < n) (h2 : k ≤ F 10 ev) : ∀ x, x ∈ lo_row (F 17) (lo_R F) p0 ev.toNat ++ lo_ls (lo_Rf F ev) (lo_Rt F ev) (lo_Rr F ev) k.toNat 0 → lo_v x := fun x hx => by
  rcases List.mem_append.mp hx with q | q
  · exact lo_row_all _ (fun e a b => hRv e a (by omega)) x q
  · exact hRv ev h0 h1 x (List.mem_append.mpr (Or.inl (lo_ls_sub q (by omega))))
theorem lo_S_v {L M : List lo_T} (h : lo_S L M) (hv : ∀ x, x ∈ L → lo_v x) : ∀ x, x ∈ M → lo_v x := fun x hx => hv x (h.2.mem_iff.mp hx)
theorem lo_vx {f g h : Int → Int} {n k : Int} (hv : ∀ x, x ∈ lo_ls f g h n.toNat 0 → lo_v x) (h0 : 0 ≤ k) (h1 : k < n) : lo_v (f k, g k, h k) := by
  have r := lo_ls_at f g h n.toNat 0 k.toNat (by omega)
  rw [show (0 : Int) + ((k.toNat : Nat) : Int) = k by omega] at r
  exact hv _ (List.mem_of_getElem? r)
theorem lo_v01 {x : lo_T} (h : lo_v x) : x.2.2 = 0 ∨ x.2.2 = 1 := by
  rcases h.1 with q | q
  · exact Or.inr q
  · exact Or.inl q.1
theorem lo_G01 {L : List lo_T} {n : Int} {F : Nat → Int → Int} (h : lo_S L (lo_G n F)) (hv : ∀ x, x ∈ L → lo_v x) : ∀ j, 0 ≤ j → j < n → F 28 j = 0 ∨ F 28 j = 1 := fun j a b => lo_v01 (lo_vx (lo_S_v h hv) a b)
theorem lo_bz {x : Int} (h : x = 0 ∨ x = 1) : (vp_nar .boolean (iz x)).toInt = x := by
  rcases h with e | e <;> subst e <;> decide
/-! going along what was gathered -/
theorem lo_J_tl {f g h : Int → Int} {n k : Int} (h0 : 0 ≤ k) (h1 : k < n) : lo_J (lo_ls f g h (n - k).toNat k) = lo_go (f k, g k, h k) (lo_ls f g h (n - (k + 1)).toNat (k + 1)) := by rw [lo_tl h0 h1]; rfl
theorem lo_jn_self {a b c : Int} (hc : c = 0 ∨ c = 1) : lo_jn (a, b, 0) (a, b, c) = (a, b, c) := by
  unfold lo_jn lo_mx lo_or
  rcases hc with e | e <;> subst e <;> simp
/-- behind the groups before place k: nz are told, and the one that is asked for, if it was among them -/
def lo_O (f g h : Int → Int) (n k nz ask : Int) (fd : Int × Int) : Prop := ∃ E, lo_J (lo_ls f g h n.toNat 0) = E ++ lo_J (lo_ls f g h (n - k).toNat k) ∧ nz = (((lo_L E).length : Nat) : Int) ∧ (0 ≤ ask → ask < nz → (lo_L E)[ask.toNat]? = some fd)
theorem lo_O_0 (f g h : Int → Int) (n ask : Int) (fd : Int × Int) : lo_O f g h n 0 0 ask fd := ⟨[], by rw [show n - 0 = n by omega]; rfl, rfl, fun a b => absurd b (by omega)⟩
/-- within a group that begins at place k -/
def lo_N (f g h : Int → Int) (n k kk a b c : Int) : Prop := (kk = k ∧ a = f k ∧ b = g k ∧ c = 0) ∨ (k < kk ∧ lo_J (lo_ls f g h (n - k).toNat k) = lo_go (a, b, c) (lo_ls f g h (n - kk).toNat kk))
theorem lo_N_0 {f g h : Int → Int} {n k a b : Int} (e1 : a = f k) (e2 : b = g k) : lo_N f g h n k k a b 0 := Or.inl ⟨rfl, e1, e2, rfl⟩
theorem lo_N_in {f g h : Int → Int} {n k kk a b c : Int} (hN : lo_N f g h n k kk a b c) (h0 : 0 ≤ k) (h1 : kk < n) (hv : lo_v (f kk, g kk, h kk)) (hj : f kk ≤ b + 1) : lo_N f g h n k (kk + 1) a (lo_mx b (g kk)) (lo_or c (h kk)) := by
  rcases hN with ⟨e1, e2, e3, e4⟩ | ⟨e1, e2⟩
  · subst e1
    refine Or.inr ⟨by omega, ?_⟩
    rw [lo_J_tl h0 h1]
    have q := lo_jn_self (a := f kk) (b := g kk) (lo_v01 hv)
    have q2 : (a, lo_mx b (g kk), lo_or c (h kk)) = (f kk, g kk, h kk) := by
      rw [e2, e3, e4]
      exact q
    rw [q2]
  · refine Or.inr ⟨by omega, ?_⟩
    rw [e2, lo_tl (by omega) h1, lo_go_in (show (f kk, g kk, h kk).1 ≤ (a, b, c).2.1 + 1 from hj)]
    rfl
theorem lo_N_out {f g h : Int → Int} {n k kk a b c : Int} (hN : lo_N f g h n k kk a b c) (h0 : 0 ≤ k) (h1 : k < n) (h2 : kk ≤ n) (hj : kk = n ∨ ¬ f kk ≤ b + 1) (h01 : h k = 0 ∨ h k = 1) : ¬ kk = k → lo_J (lo_ls f g h (n - k).toNat k) = (a, b, c) :: lo_J (lo_ls f g h (n - kk).toNat kk) := fun hne => by
  rcases hN with ⟨e1, -⟩ | ⟨e1, e2⟩
  · exact absurd e1 hne
  · rw [e2]
    rcases hj with e | e
    · rw [e, show (n - n).toNat = 0 by omega]; rfl
    · by_cases c9 : kk = n
      · rw [c9, show (n - n).toNat = 0 by omega]; rfl
      · rw [lo_tl (by omega) (by omega), lo_go_out (show ¬ (f kk, g kk, h kk).1 ≤ (a, b, c).2.1 + 1 from e)]; rfl
theorem lo_O_step {f g h : Int → Int} {n k kk nz ask own : Int} {fd fd' : Int × Int} {x : lo_T} (hO : lo_O f g h n k nz ask fd) (hx : lo_J (lo_ls f g h (n - k).toNat k) = x :: lo_J (lo_ls f g h (n - kk).toNat kk)) (ho : own = (((lo_W x).length : Nat) : Int)) (h1 : 0 ≤ ask → ask < nz → fd' = fd) (h2 : nz ≤ ask → ask < nz + own → (lo_W x)[(ask - nz).toNat]? = some fd') : lo_O f g h n kk (nz + own) ask fd' := by
  obtain ⟨E, a, b, c⟩ := hO
  refine ⟨E ++ [x], ?_, ?_, fun p q => ?_⟩
  · rw [a, hx, List.append_assoc]; rfl
  · rw [lo_L_app, List.length_append]
    show nz + own = (((lo_L E).length + (lo_W x ++ []).length : Nat) : Int)
    rw [List.append_nil]
    omega
  · rw [lo_L_app]
    show (lo_L E ++ (lo_W x ++ []))[ask.toNat]? = some fd'
    rw [List.append_nil]
    by_cases d : ask < nz
    · rw [List.getElem?_append_left (by omega), c p d, h1 p d]
    · rw [List.getElem?_append_right (by omega), show ask.toNat - (lo_L E).length = (ask - nz).toNat by omega]
      exact h2 (by omega) q
theorem lo_O_end {f g h : Int → Int} {n k nz ask : Int} {fd : Int × Int} (hO : lo_O f g h n k nz ask fd) (hk : k = n) : nz = (((lo_L (lo_J (lo_ls f g h n.toNat 0))).length : Nat) : Int) ∧ (0 ≤ ask → ask < nz → (lo_L (lo_J (lo_ls f g h n.toNat 0)))[ask.toNat]? = some fd) := by
  obtain ⟨E, a, b, c⟩ := hO
  rw [hk, show (n - n).toNat = 0 by omega] at a
  have a2 : lo_J (lo_ls f g h n.toNat 0) = E := by rw [a]; show E ++ [] = E; rw [List.append_nil]
  rw [a2]
  exact ⟨b, c⟩
