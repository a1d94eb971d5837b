/-! the reference: its calls that ask -/
theorem mSh.any {n : Int} {I : Nat → Int} {F : Nat → Int → Int} (h : mSh n I F) : mSh n I F := h
def mKn (I : Nat → Int) (F : Nat → Int → Int) : Prop := I 16 = 1 → mSm (I 1) F ∧ (0 ≤ I 19 ∧ I 19 ≤ I 1) ∧ mRw (I 19) (I 1) F
/-- what holds of the reference between calls -/
def mIv (I : Nat → Int) (F : Nat → Int → Int) : Prop :=
  mB I F ∧ (0 ≤ I 1 ∧ I 1 ≤ 64) ∧ (∀ e, 0 ≤ F 5 e ∧ F 5 e ≤ 20) ∧ (∀ e, 0 ≤ F 10 e ∧ 0 ≤ F 11 e ∧ F 11 e ≤ 99999 ∧ F 10 e + (if 0 < F 11 e then 1 else 0) ≤ 20) ∧ (∀ e, 0 ≤ F 13 e ∧ F 13 e ≤ 5) ∧ mFt F ∧ mLv I F ∧ mSe I F ∧ sumI (F 13) (I 1).toNat ≤ 64 ∧ (0 ≤ I 37 ∧ I 37 ≤ 64) ∧ (I 16 = 0 ∨ I 16 = 1) ∧ mKn I F ∧ mPS I F ∧ (0 ≤ I 40 ∧ I 40 ≤ 6000)
/-- what a call that asks may change -/
def mWk (I : Nat → Int) (F : Nat → Int → Int) (I' : Nat → Int) (F' : Nat → Int → Int) : Prop :=
  mB I' F' ∧ mfr [0, 16, 19, 29, 31, 32, 33, 35, 40, 42, 43] [17, 18, 20, 21, 22, 23, 24, 25, 26, 27, 28, 34, 38, 39, 41] I F I' F' ∧ (I' 16 = 0 ∨ I' 16 = 1) ∧ mKn I' F' ∧ mPS I' F' ∧ (0 ≤ I' 40 ∧ I' 40 ≤ 6000)
theorem mIv.hB {I : Nat → Int} {F : Nat → Int → Int} (h : mIv I F) : mB I F := h.1
theorem mIv.hc {I : Nat → Int} {F : Nat → Int → Int} (h : mIv I F) : 0 ≤ I 1 ∧ I 1 ≤ 64 := h.2.1
theorem mIv.hn {I : Nat → Int} {F : Nat → Int → Int} (h : mIv I F) : ∀ e, 0 ≤ F 5 e ∧ F 5 e ≤ 20 := h.2.2.1
theorem mIv.hln {I : Nat → Int} {F : Nat → Int → Int} (h : mIv I F) : ∀ e, 0 ≤ F 10 e ∧ 0 ≤ F 11 e ∧ F 11 e ≤ 99999 ∧ F 10 e + (if 0 < F 11 e then 1 else 0) ≤ 20 := h.2.2.2.1
theorem mIv.hmy {I : Nat → Int} {F : Nat → Int → Int} (h : mIv I F) : ∀ e, 0 ≤ F 13 e ∧ F 13 e ≤ 5 := h.2.2.2.2.1
theorem mIv.hmf {I : Nat → Int} {F : Nat → Int → Int} (h : mIv I F) : mFt F := h.2.2.2.2.2.1
theorem mIv.hlv {I : Nat → Int} {F : Nat → Int → Int} (h : mIv I F) : mLv I F := h.2.2.2.2.2.2.1
theorem mIv.hse {I : Nat → Int} {F : Nat → Int → Int} (h : mIv I F) : mSe I F := h.2.2.2.2.2.2.2.1
theorem mIv.hsu {I : Nat → Int} {F : Nat → Int → Int} (h : mIv I F) : sumI (F 13) (I 1).toNat ≤ 64 := h.2.2.2.2.2.2.2.2.1
theorem mIv.hst {I : Nat → Int} {F : Nat → Int → Int} (h : mIv I F) : 0 ≤ I 37 ∧ I 37 ≤ 64 := h.2.2.2.2.2.2.2.2.2.1
theorem mIv.hk01 {I : Nat → Int} {F : Nat → Int → Int} (h : mIv I F) : I 16 = 0 ∨ I 16 = 1 := h.2.2.2.2.2.2.2.2.2.2.1
theorem mIv.hkn {I : Nat → Int} {F : Nat → Int → Int} (h : mIv I F) : mKn I F := h.2.2.2.2.2.2.2.2.2.2.2.1
theorem mIv.hps {I : Nat → Int} {F : Nat → Int → Int} (h : mIv I F) : mPS I F := h.2.2.2.2.2.2.2.2.2.2.2.2.1
theorem mIv.hmd {I : Nat → Int} {F : Nat → Int → Int} (h : mIv I F) : 0 ≤ I 40 ∧ I 40 ≤ 6000 := h.2.2.2.2.2.2.2.2.2.2.2.2.2
theorem mKn.keep {I J : Nat → Int} {F G : Nat → Int → Int} (h : mKn I F) (e16 : J 16 = I 16) (e1 : J 1 = I 1) (e19 : J 19 = I 19) (f17 : G 17 = F 17) (f2 : G 2 = F 2) (f18 : G 18 = F 18) : mKn J G := by
  intro h1
  rw [e16] at h1
  obtain ⟨a, b, c⟩ := h h1
  rw [e1, e19]
  exact ⟨mSm.fr a f17 f2, b, mRw.fr c f18⟩
theorem mIv.go {I J : Nat → Int} {F G : Nat → Int → Int} (h : mIv I F) (hw : mWk I F J G) : mIv J G := by
  obtain ⟨hB, hc, hn, hln, hmy, hmf, hlv, hse, hsu, hst, hk01, hkn, hps, hmd⟩ := h
  obtain ⟨wB, wf, w16, wk, wp, wm⟩ := hw
  refine ⟨wB, ?_, ?_, ?_, ?_, ?_, ?_, ?_, ?_, ?_, w16, wk, wp, wm⟩
  · rw [wf.1 1 (by decide)]; exact hc
  · intro e; rw [wf.2 5 (by decide)]; exact hn e
  · intro e; rw [wf.2 10 (by decide), wf.2 11 (by decide)]; exact hln e
  · intro e; rw [wf.2 13 (by decide)]; exact hmy e
  · intro j; rw [wf.2 7 (by decide), wf.2 8 (by decide)]; exact hmf j
  · exact hlv.fr (wf.1 1 (by decide)) (wf.2 2 (by decide)) (wf.2 3 (by decide))
  · intro e k x1 x2 x3 x4
    rw [wf.1 1 (by decide)] at x2 ⊢
    rw [wf.2 13 (by decide)] at x4
    rw [wf.2 12 (by decide)]
    exact hse e k x1 x2 x3 x4
  · rw [wf.1 1 (by decide), wf.2 13 (by decide)]; exact hsu
  · rw [wf.1 37 (by decide)]; exact hst
theorem mWk.rf {I : Nat → Int} {F : Nat → Int → Int} (h : mIv I F) : mWk I F I F := ⟨h.hB, mfr.rf, h.hk01, h.hkn, h.hps, h.hmd⟩
theorem mWk.tr {I J K : Nat → Int} {F G L : Nat → Int → Int} (h : mWk I F J G) (h2 : mWk J G K L) : mWk I F K L := ⟨h2.1, h.2.1.tr h2.2.1, h2.2.2⟩
theorem mWk.look {I J : Nat → Int} {F G : Nat → Int → Int} (h : mIv I F) (hq : mB J G ∧ mfr [16, 19] [17, 18, 20, 21, 22, 23, 24] I F J G ∧ J 16 = 1 ∧ mSm (I 1) G ∧ (0 ≤ J 19 ∧ J 19 ≤ I 1) ∧ mRw (J 19) (I 1) G) : mWk I F J G := by
  obtain ⟨wB, wf, w16, ws, wz, wr⟩ := hq
  have e1 := wf.1 1 (by decide)
  refine ⟨wB, wf.mono (by decide) (by decide), Or.inr w16, fun _ => by rw [e1]; exact ⟨ws, wz, wr⟩, ⟨h.hps.1.fr (wf.1 42 (by decide)) (wf.1 43 (by decide)), h.hps.2.1.fr (wf.1 32 (by decide)) (wf.1 33 (by decide)), by rw [wf.1 29 (by decide)]; exact h.hps.2.2.1, by rw [wf.1 29 (by decide)]; exact h.hps.2.2.2.fr (wf.2 26 (by decide)) (wf.2 27 (by decide))⟩, by rw [wf.1 40 (by decide)]; exact h.hmd⟩
/-- a step that leaves the rows as they are -/
theorem mWk.by {SI SF : List Nat} {I J : Nat → Int} {F G : Nat → Int → Int} (h : mIv I F) (wB : mB J G) (wf : mfr SI SF I F J G) (wp : mPS J G) (hm : 0 ≤ J 40 ∧ J 40 ≤ 6000) (s1 : ∀ k, k ∈ SI → k ∈ ([0, 16, 19, 29, 31, 32, 33, 35, 40, 42, 43] : List Nat)) (s2 : ∀ k, k ∈ SF → k ∈ ([17, 18, 20, 21, 22, 23, 24, 25, 26, 27, 28, 34, 38, 39, 41] : List Nat)) (i16 : 16 ∉ SI) (i19 : 19 ∉ SI) (i17 : 17 ∉ SF) (i18 : 18 ∉ SF) : mWk I F J G ∧ J 16 = I 16 ∧ J 19 = I 19 :=
  have w2 := wf.mono s1 s2
  ⟨⟨wB, w2, by rw [wf.1 16 i16]; exact h.hk01, h.hkn.keep (wf.1 16 i16) (w2.1 1 (by decide)) (wf.1 19 i19) (wf.2 17 i17) (w2.2 2 (by decide)) (wf.2 18 i18), wp, hm⟩, wf.1 16 i16, wf.1 19 i19⟩
theorem mIv.m40 {SI SF : List Nat} {I J : Nat → Int} {F G : Nat → Int → Int} (h : mIv I F) (wf : mfr SI SF I F J G) (hk : 40 ∉ SI) : 0 ≤ J 40 ∧ J 40 ≤ 6000 := by rw [wf.1 40 hk]; exact h.hmd
theorem mPS.keep {SI SF : List Nat} {I J : Nat → Int} {F G : Nat → Int → Int} (h : mPS I F) (wf : mfr SI SF I F J G) (h1 : 42 ∉ SI ∧ 43 ∉ SI ∧ 32 ∉ SI ∧ 33 ∉ SI ∧ 29 ∉ SI ∧ 26 ∉ SF ∧ 27 ∉ SF) : mPS J G :=
  ⟨h.1.fr (wf.1 42 h1.1) (wf.1 43 h1.2.1), h.2.1.fr (wf.1 32 h1.2.2.1) (wf.1 33 h1.2.2.2.1), by rw [wf.1 29 h1.2.2.2.2.1]; exact h.2.2.1, by rw [wf.1 29 h1.2.2.2.2.1]; exact h.2.2.2.fr (wf.2 26 h1.2.2.2.2.2.1) (wf.2 27 h1.2.2.2.2.2.2)⟩
theorem mWk.thr {I : Nat → Int} {F : Nat → Int → Int} (h : mIv I F) {v : Int} (h1 : 0 ≤ v ∧ v ≤ 3) : mWk I F (va_up I 0 v) F ∧ va_up I 0 v 16 = I 16 ∧ va_up I 0 v 19 = I 19 :=
  have wf : mfr [0] [] I F (va_up I 0 v) F := mfr.upI mfr.rf (by decide) _
  mWk.by h (mB_i h.hB 0 (by omega) (by omega)) wf (h.hps.keep wf (by decide)) (h.m40 wf (by decide)) (by decide) (by decide) (by decide) (by decide) (by decide) (by decide)
theorem mWk.u42 {I : Nat → Int} {F : Nat → Int → Int} (h : mIv I F) : mWk I F (va_up I 42 0) F ∧ va_up I 42 0 16 = I 16 ∧ va_up I 42 0 19 = I 19 :=
  have wf : mfr [42, 43] [41] I F (va_up I 42 0) F := mfr.upI mfr.rf (by decide) _
  mWk.by h (mB_i h.hB 42 (by omega) (by omega)) wf (h.hps.put wf ⟨by rw [va_up_self]; omega, by rw [va_up_self]; omega, h.hps.1.2.2⟩) (h.m40 wf (by decide)) (by decide) (by decide) (by decide) (by decide) (by decide) (by decide)
theorem mWk.u43 {I : Nat → Int} {F : Nat → Int → Int} (h : mIv I F) : mWk I F (va_up I 43 0) F ∧ va_up I 43 0 16 = I 16 ∧ va_up I 43 0 19 = I 19 :=
  have wf : mfr [42, 43] [41] I F (va_up I 43 0) F := mfr.upI mfr.rf (by decide) _
  mWk.by h (mB_i h.hB 43 (by omega) (by omega)) wf (h.hps.put wf ⟨h.hps.1.1, h.hps.1.2.1, Or.inl (va_up_self _ _ _)⟩) (h.m40 wf (by decide)) (by decide) (by decide) (by decide) (by decide) (by decide) (by decide)
theorem mWk.u40 {I : Nat → Int} {F : Nat → Int → Int} (h : mIv I F) : mWk I F (va_up I 40 (I 42)) F ∧ va_up I 40 (I 42) 16 = I 16 ∧ va_up I 40 (I 42) 19 = I 19 :=
  have wf : mfr [40] [] I F (va_up I 40 (I 42)) F := mfr.upI mfr.rf (by decide) _
  have hd := h.hps.1
  mWk.by h (mB_i h.hB 40 (by have := hd.1; omega) (by have := hd.2.1; omega)) wf (h.hps.keep wf (by decide)) (by rw [va_up_self]; exact ⟨hd.1, hd.2.1⟩) (by decide) (by decide) (by decide) (by decide) (by decide) (by decide)
theorem mWk.u39 {I : Nat → Int} {F : Nat → Int → Int} (h : mIv I F) (i : Int) {v : Int} (h1 : -2147483648 ≤ v) (h2 : v < 2147483648) : mWk I F I (va_up F 39 (upI (F 39) i v)) ∧ I 16 = I 16 ∧ I 19 = I 19 :=
  have wf : mfr [] [39] I F I (va_up F 39 (upI (F 39) i v)) := mfr.upF mfr.rf (by decide) _
  mWk.by h (mB_f h.hB 39 i h1 h2) wf (h.hps.keep wf (by decide)) (h.m40 wf (by decide)) (by decide) (by decide) (by decide) (by decide) (by decide) (by decide)
theorem mWk.gat {I J : Nat → Int} {F G : Nat → Int → Int} (h : mIv I F) (hq : mB J G ∧ mfr [29] [25, 26, 27, 28] I F J G ∧ (0 ≤ J 29 ∧ J 29 ≤ 1600) ∧ mGt (J 29) G) : mWk I F J G ∧ J 16 = I 16 ∧ J 19 = I 19 :=
  mWk.by h hq.1 hq.2.1 (h.hps.gat hq.2.1 hq.2.2.1 hq.2.2.2) (h.m40 hq.2.1 (by decide)) (by decide) (by decide) (by decide) (by decide) (by decide) (by decide)
theorem mWk.loc {I J : Nat → Int} {F G : Nat → Int → Int} {r : Int} (h : mIv I F) (hq : F = G ∧ mB J F ∧ mfr [31, 32, 33] [] I F J F ∧ mFd J ∧ (0 ≤ r ∧ r ≤ 3400)) : mWk I F J G ∧ J 16 = I 16 ∧ J 19 = I 19 := by
  obtain ⟨rfl, b, f, d, -⟩ := hq
  exact mWk.by h b f (h.hps.loc f d) (h.m40 f (by decide)) (by decide) (by decide) (by decide) (by decide) (by decide) (by decide)
theorem mWk.shw {I J : Nat → Int} {F G : Nat → Int → Int} (h : mIv I F) (hq : mB J G ∧ mfr [35] [34] I F J G ∧ (0 ≤ J 35 ∧ J 35 ≤ 64) ∧ mSh (I 1) J G) : mWk I F J G ∧ J 16 = I 16 ∧ J 19 = I 19 :=
  mWk.by h hq.1 hq.2.1 (h.hps.keep hq.2.1 (by decide)) (h.m40 hq.2.1 (by decide)) (by decide) (by decide) (by decide) (by decide) (by decide) (by decide)
theorem mWk.scr {I J : Nat → Int} {F G : Nat → Int → Int} (h : mIv I F) (e : I = J) (b : mB I G) (f : mfr [] [20, 21, 22, 23, 24] I F I G) : mWk I F J G ∧ J 16 = I 16 ∧ J 19 = I 19 := by
  subst e
  exact mWk.by h b f (h.hps.scr f) (h.m40 f (by decide)) (by decide) (by decide) (by decide) (by decide) (by decide) (by decide)
theorem mWk.ff {I J : Nat → Int} {F G : Nat → Int → Int} (h : mIv I F) (e : I = J) (b : mB I G) (f : mfr [] [38] I F I G) : mWk I F J G ∧ J 16 = I 16 ∧ J 19 = I 19 := by
  subst e
  exact mWk.by h b f (h.hps.keep f (by decide)) (h.m40 f (by decide)) (by decide) (by decide) (by decide) (by decide) (by decide) (by decide)
theorem mWk.part {I J : Nat → Int} {F G : Nat → Int → Int} (h : mIv I F) (hq : mB J G ∧ mfr [29, 31, 32, 33, 35, 42, 43] [20, 21, 22, 23, 24, 25, 26, 27, 28, 34, 41] I F J G ∧ mPS J G) : mWk I F J G ∧ J 16 = I 16 ∧ J 19 = I 19 :=
  mWk.by h hq.1 hq.2.1 hq.2.2 (h.m40 hq.2.1 (by decide)) (by decide) (by decide) (by decide) (by decide) (by decide) (by decide)
theorem mBr.kp {SI SF : List Nat} {n : Int} {I J : Nat → Int} {F G : Nat → Int → Int} (h : mBr n I F) (f : mfr SI SF I F J G) (h1 : 37 ∉ SI ∧ 38 ∉ SF) : mBr n J G := by
  intro j a b
  rw [f.1 37 h1.1, f.2 38 h1.2]
  exact h j a b
theorem mBr.eq {n : Int} {I J : Nat → Int} {F G : Nat → Int → Int} (h : mBr n I F) (f1 : J 37 = I 37) (f2 : G 38 = F 38) : mBr n J G := by
  intro j a b
  rw [f1, f2]
  exact h j a b
theorem kq_11_mask_0 : (Cond.methodLink RX6 190 yX6_look) ∈ lw_tbl := by decide +kernel
theorem kq_11_mask_1 : (Cond.instanceMethod yX6_look) ∈ lw_tbl := by decide +kernel
theorem kq_11_mask_2 : (Cond.selects RX6 yX6_look yX6_look) ∈ lw_tbl := by decide +kernel
theorem kq_11_mask_3 : (Cond.code yX6_look cX6_look 3 none) ∈ lw_tbl := by decide +kernel
theorem kq_11_mask_4 : (Cond.methodLink RX6 208 yX6_isBare) ∈ lw_tbl := by decide +kernel
theorem kq_11_mask_5 : (Cond.instanceMethod yX6_isBare) ∈ lw_tbl := by decide +kernel
theorem kq_11_mask_6 : (Cond.selects RX6 yX6_isBare yX6_isBare) ∈ lw_tbl := by decide +kernel
theorem kq_11_mask_7 : (Cond.code yX6_isBare cX6_isBare 4 (some .boolean)) ∈ lw_tbl := by decide +kernel
theorem kq_11_mask_8 : (Cond.methodLink RX6 247 yX6_findFault) ∈ lw_tbl := by decide +kernel
theorem kq_11_mask_9 : (Cond.instanceMethod yX6_findFault) ∈ lw_tbl := by decide +kernel
theorem kq_11_mask_10 : (Cond.selects RX6 yX6_findFault yX6_findFault) ∈ lw_tbl := by decide +kernel
theorem kq_11_mask_11 : (Cond.code yX6_findFault cX6_findFault 4 (some .int)) ∈ lw_tbl := by decide +kernel
theorem kq_11_mask_12 : (Cond.fieldLink RX6 253 "IndexSortModel" "made" "I") ∈ lw_tbl := by decide +kernel
theorem kq_11_mask_13 : (Cond.fieldLink RX6 96 "IndexSortModel" "out" "[B") ∈ lw_tbl := by decide +kernel
theorem kq_11_mask_14 : (Cond.methodLink RX6 250 yX6_putPart) ∈ lw_tbl := by decide +kernel
theorem kq_11_mask_15 : (Cond.instanceMethod yX6_putPart) ∈ lw_tbl := by decide +kernel
theorem kq_11_mask_16 : (Cond.selects RX6 yX6_putPart yX6_putPart) ∈ lw_tbl := by decide +kernel
theorem kq_11_mask_17 : (Cond.code yX6_putPart cX6_putPart 6 none) ∈ lw_tbl := by decide +kernel
set_option maxHeartbeats 4000000 in
set_option maxRecDepth 100000 in
theorem k_run (l : Launch) (dC : Nat → ClassId) (dI : Nat → Nat → Nat) (mo : Nat) (ma : Nat → Nat) (cs : Nat → ClassId) (I : Nat → Int) (F : Nat → Int → Int) (sz : Nat) (hI : mIv I F) : mMi l yX6_run (.code yX6_run cX6_run 1 (some .int)) 5 120 dC dI mo ma cs I F [.ref mo] sz (fun (r : Int) (I' : Nat → Int) (F' : Nat → Int → Int) => mWk I F I' F') := by
  refine Met.ofW (cc := cX6_run) (maxL := 1) (ret := (some .int)) (by decide) rfl ?_
  intro p e s m args below meth c s₁ B hml hv
  obtain ⟨rfl, hsz, hP, hK, hD0, hG, hZ⟩ := hv
  have hx := B.exec
  have hb := B.bytes
  have hr := B.returns
  have hts := kx_hts (a := ([.ref mo] : List Value).toArray) hG
  have hown : s.vm.findClass RX6 = some m.cls := findClass_of_methodNamed B.named
  have hlocks := B.notSynchronized
  subst hsz
  have hD := hD0.self (sz := s.heap.size)
  generalize hAe : va_A (mW mo ma cs I F) s.heap.size = A at hD hZ ⊢
  have hA : ∀ q : Nat, s.heap.size ≤ q → A q := fun q h => by rw [← hAe]; exact Or.inr h
  have hS : va_S A s.heap s.heap [] := va_S.rf
  have hl := lv_entry ([.ref mo]) (n := 1) (Nat.le_of_ble_eq_true rfl)
  rw [lg_entry_eq]
  generalize (lg_sl ([.ref mo]) ++ List.replicate (1 - (lg_sl ([.ref mo])).length) Slot.unset).toArray = ls at hl ⊢
  have hl : lv_has ls 1 [(0, .ref mo)] := hl
  have hW0 : mWk I F I F := mWk.rf hI
  have hc0 := hI.hc
  refine lv_aload_n hx hb dX6_run_0 rfl (lv_at hl 0 rfl) ?_
  refine lv_iconst (v := iz 0) hx hb dX6_run_1 (by decide) ?_
  refine va_put (D := (dC, dI)) (ci := 6) (v := .int (iz 0)) (ty := .int) (C := RX6) (T := TX6) (N := 44) hx hb hts kt_X6 tyX6 tyX6_ok nmX6 hown hK hP hD hS 0 rfl rfl 0 (by decide) (kx_word hG kq_04_msmall_0 rfl) (fun _ h9 => h9) rfl (by decide +kernel) rfl rfl (Nat.le_of_ble_eq_true rfl) dX6_run_2 (fun H locs hP hD hS => ?_)
  have hP : va_P (dC, dI) kxCl (mW mo ma cs (va_up I 0 0) F) H := hP
  have hD : va_D A (mW mo ma cs (va_up I 0 0) F) := hD
  refine lv_aload_n hx hb dX6_run_5 rfl (lv_at hl 0 rfl) ?_
  have hk1 : mWk _ _ (va_up I 0 0) F ∧ _ := mWk.thr hI (v := 0) (by omega)
  have hI1 : mIv (va_up I 0 0) F := hI.go hk1.1
  have hw1 : mWk _ _ (va_up I 0 0) F := hW0.tr hk1.1
  have e161 : (va_up I 0 0) 16 = _ := hk1.2.1
  have e191 : (va_up I 0 0) 19 = _ := hk1.2.2
  have e11 : (va_up I 0 0) 1 = _ := hk1.1.2.1.1 1 (by decide)
  refine mk_callv (As := []) (rest := []) ⟨hx, hb, hml, hown, hts⟩ (k_look l dC dI mo ma cs (va_up I 0 0) F  H.size hI1.hB hI1.hc hI1.hn hI1.hlv hI1.hkn hI1.hk01) (cwV 0 hts (kx_gV kq_11_mask_0 kq_11_mask_1 kq_11_mask_2 kq_04_msmall_6 kq_11_mask_3 rfl) rfl rfl rfl (by decide +kernel) ⟨Nat.le_of_ble_eq_true rfl, Nat.le_of_ble_eq_true rfl⟩) hP hD hK hG hZ hS hA rfl hl.1 rfl (Nat.le_of_ble_eq_true rfl) dX6_run_6 ⟨Nat.le_of_ble_eq_true rfl, Nat.le_of_ble_eq_true rfl⟩ (fun I_4 F_5 H locs hq_3 hP hD hS => ?_)
  try dsimp only at hq_3
  have hk6 : mWk (va_up I 0 0) F I_4 F_5 := mWk.look hI1 hq_3
  have hI6 : mIv I_4 F_5 := hI1.go hk6
  have hw6 : mWk _ _ I_4 F_5 := hw1.tr hk6
  have e166 : I_4 16 = 1 := hq_3.2.2.1
  have hc6 := hI6.hc
  obtain ⟨hsmL, hszL, hrwL⟩ := hI6.hkn (by omega)
  refine lv_aload_n hx hb dX6_run_9 rfl (lv_at hl 0 rfl) ?_
  refine va_get (D := (dC, dI)) (ci := 6) (v := .int (iz (I_4 19))) (C := RX6) (T := TX6) (N := 44) hx hb hts kt_X6 hown hK hP 0 rfl rfl 19 (by decide) (kx_word hG kq_07_mlook_0 rfl) (fun _ h9 => h9) rfl dX6_run_10 ?_
  have hbd_7 := hI6.hB.1 19
  exact mk_ireti hx hb hr hlocks hP hD hK hS dX6_run_13 hw6
set_option maxHeartbeats 4000000 in
set_option maxRecDepth 100000 in
theorem k_row (l : Launch) (dC : Nat → ClassId) (dI : Nat → Nat → Nat) (mo : Nat) (ma : Nat → Nat) (cs : Nat → ClassId) (I : Nat → Int) (F : Nat → Int → Int) (p0 : Int) (p1 : Int) (sz : Nat) (hI : mIv I F) (hp01 : -2147483648 ≤ p0) (hp02 : p0 < 2147483648) (hp11 : -2147483648 ≤ p1) (hp12 : p1 < 2147483648) : mMi l yX6_row (.code yX6_row cX6_row 4 (some .int)) 5 120 dC dI mo ma cs I F [.ref mo, .int (iz p0), .int (iz p1)] sz (fun (r : Int) (I' : Nat → Int) (F' : Nat → Int → Int) => mWk I F I' F') := by
  refine Met.ofW (cc := cX6_row) (maxL := 4) (ret := (some .int)) (by decide) rfl ?_
  intro p e s m args below meth c s₁ B hml hv
  obtain ⟨rfl, hsz, hP, hK, hD0, hG, hZ⟩ := hv
  have hx := B.exec
  have hb := B.bytes
  have hr := B.returns
  have hts := kx_hts (a := ([.ref mo, .int (iz p0), .int (iz p1)] : List Value).toArray) hG
  have hown : s.vm.findClass RX6 = some m.cls := findClass_of_methodNamed B.named
  have hlocks := B.notSynchronized
  subst hsz
  have hD := hD0.self (sz := s.heap.size)
  generalize hAe : va_A (mW mo ma cs I F) s.heap.size = A at hD hZ ⊢
  have hA : ∀ q : Nat, s.heap.size ≤ q → A q := fun q h => by rw [← hAe]; exact Or.inr h
  have hS : va_S A s.heap s.heap [] := va_S.rf
  have hl := lv_entry ([.ref mo, .int (iz p0), .int (iz p1)]) (n := 4) (Nat.le_of_ble_eq_true rfl)
  rw [lg_entry_eq]
  generalize (lg_sl ([.ref mo, .int (iz p0), .int (iz p1)]) ++ List.replicate (4 - (lg_sl ([.ref mo, .int (iz p0), .int (iz p1)])).length) Slot.unset).toArray = ls at hl ⊢
  have hl : lv_has ls 4 [(0, .ref mo), (1, .int (iz p0)), (2, .int (iz p1))] := hl
  have hW0 : mWk I F I F := mWk.rf hI
  have hc0 := hI.hc
  refine lv_aload_n hx hb dX6_row_0 rfl (lv_at hl 0 rfl) ?_
  refine mk_callv (As := []) (rest := []) ⟨hx, hb, hml, hown, hts⟩ (k_look l dC dI mo ma cs I F  s.heap.size hI.hB hI.hc hI.hn hI.hlv hI.hkn hI.hk01) (cwV 0 hts (kx_gV kq_11_mask_0 kq_11_mask_1 kq_11_mask_2 kq_04_msmall_6 kq_11_mask_3 rfl) rfl rfl rfl (by decide +kernel) ⟨Nat.le_of_ble_eq_true rfl, Nat.le_of_ble_eq_true rfl⟩) hP hD hK hG hZ hS hA rfl hl.1 rfl (Nat.le_of_ble_eq_true rfl) dX6_row_1 ⟨Nat.le_of_ble_eq_true rfl, Nat.le_of_ble_eq_true rfl⟩ (fun I_3 F_4 H locs hq_2 hP hD hS => ?_)
  try dsimp only at hq_2
  have hk5 : mWk I F I_3 F_4 := mWk.look hI hq_2
  have hI5 : mIv I_3 F_4 := hI.go hk5
  have hw5 : mWk _ _ I_3 F_4 := hW0.tr hk5
  have e165 : I_3 16 = 1 := hq_2.2.2.1
  have hc5 := hI5.hc
  obtain ⟨hsmL, hszL, hrwL⟩ := hI5.hkn (by omega)
  refine lv_aload_n hx hb dX6_row_4 rfl (lv_at hl 0 rfl) ?_
  refine lv_iload_n hx hb dX6_row_5 rfl (lv_at hl 1 rfl) ?_
  refine ki_if_lt (tgt := 26) hx hb dX6_row_6 (by decide) (by omega) (by omega) (fun c_6 => ?_) (fun c_6 => ?_)
  · skip
    refine lv_iconst (v := iz 1) hx hb dX6_row_26 (by decide) ?_
    refine lv_goto (tgt := 31) hx hb dX6_row_27 (by decide) ?_
    refine lv_iconst (v := iz 0) hx hb dX6_row_31 (by decide) ?_
    refine lv_iconst (v := iz 0) hx hb dX6_row_32 (by decide) ?_
    refine mk_calli (As := [.int (iz 1), .int (iz 0), .int (iz 0)]) (rest := []) ⟨hx, hb, hml, hown, hts⟩ (k_refused1 l dC dI mo ma cs I_3 F_4 0 0 H.size (by omega) (by omega) (by omega) (by omega)) (cwV 3 hts (kx_gV kq_04_msmall_8 kq_04_msmall_9 kq_04_msmall_10 kq_04_msmall_6 kq_04_msmall_11 rfl) rfl rfl rfl (by decide +kernel) ⟨Nat.le_of_ble_eq_true rfl, Nat.le_of_ble_eq_true rfl⟩) hP hD hK hG hZ hS hA rfl hl.1 rfl (Nat.le_of_ble_eq_true rfl) dX6_row_33 ⟨Nat.le_of_ble_eq_true rfl, Nat.le_of_ble_eq_true rfl⟩ (fun z_7 I_9 F_10 H locs hq_8 hP hD hS => ?_)
    try dsimp only at hq_8
    obtain ⟨rfl, rfl, rfl⟩ := hq_8
    refine ki_if_eq (tgt := 41) hx hb dX6_row_36 (by decide) (by omega) (by omega) (fun c_11 => ?_) (fun c_11 => ?_)
    · omega
    · skip
      refine lv_iconst (v := iz 0) hx hb dX6_row_39 (by decide) ?_
      have hk12 : mWk _ _ (va_up I_3 0 1) F_4 ∧ _ := mWk.thr hI5 (v := 1) (by omega)
      have hI12 : mIv (va_up I_3 0 1) F_4 := hI5.go hk12.1
      have hw12 : mWk _ _ (va_up I_3 0 1) F_4 := hw5.tr hk12.1
      have e1612 : (va_up I_3 0 1) 16 = _ := hk12.2.1
      have e1912 : (va_up I_3 0 1) 19 = _ := hk12.2.2
      have e112 : (va_up I_3 0 1) 1 = _ := hk12.1.2.1.1 1 (by decide)
      exact mk_ireti hx hb hr hlocks hP hD hK hS dX6_row_40 hw12
  · skip
    refine lv_iload_n hx hb dX6_row_9 rfl (lv_at hl 1 rfl) ?_
    refine lv_aload_n hx hb dX6_row_10 rfl (lv_at hl 0 rfl) ?_
    refine va_get (D := (dC, dI)) (ci := 6) (v := .int (iz (I_3 19))) (C := RX6) (T := TX6) (N := 44) hx hb hts kt_X6 hown hK hP 0 rfl rfl 19 (by decide) (kx_word hG kq_07_mlook_0 rfl) (fun _ h9 => h9) rfl dX6_row_11 ?_
    have hbd_13 := hI5.hB.1 19
    refine ki_icmp_ge (tgt := 26) hx hb dX6_row_14 (by decide) (by omega) (by omega) (by omega) (by omega) (fun c_14 => ?_) (fun c_14 => ?_)
    · skip
      refine lv_iconst (v := iz 1) hx hb dX6_row_26 (by decide) ?_
      refine lv_goto (tgt := 31) hx hb dX6_row_27 (by decide) ?_
      refine lv_iconst (v := iz 0) hx hb dX6_row_31 (by decide) ?_
      refine lv_iconst (v := iz 0) hx hb dX6_row_32 (by decide) ?_
      refine mk_calli (As := [.int (iz 1), .int (iz 0), .int (iz 0)]) (rest := []) ⟨hx, hb, hml, hown, hts⟩ (k_refused1 l dC dI mo ma cs I_3 F_4 0 0 H.size (by omega) (by omega) (by omega) (by omega)) (cwV 3 hts (kx_gV kq_04_msmall_8 kq_04_msmall_9 kq_04_msmall_10 kq_04_msmall_6 kq_04_msmall_11 rfl) rfl rfl rfl (by decide +kernel) ⟨Nat.le_of_ble_eq_true rfl, Nat.le_of_ble_eq_true rfl⟩) hP hD hK hG hZ hS hA rfl hl.1 rfl (Nat.le_of_ble_eq_true rfl) dX6_row_33 ⟨Nat.le_of_ble_eq_true rfl, Nat.le_of_ble_eq_true rfl⟩ (fun z_15 I_17 F_18 H locs hq_16 hP hD hS => ?_)
      try dsimp only at hq_16
      obtain ⟨rfl, rfl, rfl⟩ := hq_16
      refine ki_if_eq (tgt := 41) hx hb dX6_row_36 (by decide) (by omega) (by omega) (fun c_19 => ?_) (fun c_19 => ?_)
      · omega
      · skip
        refine lv_iconst (v := iz 0) hx hb dX6_row_39 (by decide) ?_
        have hk20 : mWk _ _ (va_up I_3 0 1) F_4 ∧ _ := mWk.thr hI5 (v := 1) (by omega)
        have hI20 : mIv (va_up I_3 0 1) F_4 := hI5.go hk20.1
        have hw20 : mWk _ _ (va_up I_3 0 1) F_4 := hw5.tr hk20.1
        have e1620 : (va_up I_3 0 1) 16 = _ := hk20.2.1
        have e1920 : (va_up I_3 0 1) 19 = _ := hk20.2.2
        have e120 : (va_up I_3 0 1) 1 = _ := hk20.1.2.1.1 1 (by decide)
        exact mk_ireti hx hb hr hlocks hP hD hK hS dX6_row_40 hw20
    · skip
      refine lv_iload_n hx hb dX6_row_17 rfl (lv_at hl 2 rfl) ?_
      refine ki_if_lt (tgt := 26) hx hb dX6_row_18 (by decide) (by omega) (by omega) (fun c_21 => ?_) (fun c_21 => ?_)
      · skip
        refine lv_iconst (v := iz 1) hx hb dX6_row_26 (by decide) ?_
        refine lv_goto (tgt := 31) hx hb dX6_row_27 (by decide) ?_
        refine lv_iconst (v := iz 0) hx hb dX6_row_31 (by decide) ?_
        refine lv_iconst (v := iz 0) hx hb dX6_row_32 (by decide) ?_
        refine mk_calli (As := [.int (iz 1), .int (iz 0), .int (iz 0)]) (rest := []) ⟨hx, hb, hml, hown, hts⟩ (k_refused1 l dC dI mo ma cs I_3 F_4 0 0 H.size (by omega) (by omega) (by omega) (by omega)) (cwV 3 hts (kx_gV kq_04_msmall_8 kq_04_msmall_9 kq_04_msmall_10 kq_04_msmall_6 kq_04_msmall_11 rfl) rfl rfl rfl (by decide +kernel) ⟨Nat.le_of_ble_eq_true rfl, Nat.le_of_ble_eq_true rfl⟩) hP hD hK hG hZ hS hA rfl hl.1 rfl (Nat.le_of_ble_eq_true rfl) dX6_row_33 ⟨Nat.le_of_ble_eq_true rfl, Nat.le_of_ble_eq_true rfl⟩ (fun z_22 I_24 F_25 H locs hq_23 hP hD hS => ?_)
        try dsimp only at hq_23
        obtain ⟨rfl, rfl, rfl⟩ := hq_23
        refine ki_if_eq (tgt := 41) hx hb dX6_row_36 (by decide) (by omega) (by omega) (fun c_26 => ?_) (fun c_26 => ?_)
        · omega
        · skip
          refine lv_iconst (v := iz 0) hx hb dX6_row_39 (by decide) ?_
          have hk27 : mWk _ _ (va_up I_3 0 1) F_4 ∧ _ := mWk.thr hI5 (v := 1) (by omega)
          have hI27 : mIv (va_up I_3 0 1) F_4 := hI5.go hk27.1
          have hw27 : mWk _ _ (va_up I_3 0 1) F_4 := hw5.tr hk27.1
          have e1627 : (va_up I_3 0 1) 16 = _ := hk27.2.1
          have e1927 : (va_up I_3 0 1) 19 = _ := hk27.2.2
          have e127 : (va_up I_3 0 1) 1 = _ := hk27.1.2.1.1 1 (by decide)
          exact mk_ireti hx hb hr hlocks hP hD hK hS dX6_row_40 hw27
      · skip
        refine lv_iload_n hx hb dX6_row_21 rfl (lv_at hl 2 rfl) ?_
        refine lv_iconst (v := iz 4) hx hb dX6_row_22 (by decide) ?_
        refine ki_icmp_le (tgt := 30) hx hb dX6_row_23 (by decide) (by omega) (by omega) (by omega) (by omega) (fun c_28 => ?_) (fun c_28 => ?_)
        · skip
          refine lv_iconst (v := iz 0) hx hb dX6_row_30 (by decide) ?_
          refine lv_iconst (v := iz 0) hx hb dX6_row_31 (by decide) ?_
          refine lv_iconst (v := iz 0) hx hb dX6_row_32 (by decide) ?_
          refine mk_calli (As := [.int (iz 0), .int (iz 0), .int (iz 0)]) (rest := []) ⟨hx, hb, hml, hown, hts⟩ (k_refused0 l dC dI mo ma cs I_3 F_4  H.size ) (cwV 3 hts (kx_gV kq_04_msmall_8 kq_04_msmall_9 kq_04_msmall_10 kq_04_msmall_6 kq_04_msmall_11 rfl) rfl rfl rfl (by decide +kernel) ⟨Nat.le_of_ble_eq_true rfl, Nat.le_of_ble_eq_true rfl⟩) hP hD hK hG hZ hS hA rfl hl.1 rfl (Nat.le_of_ble_eq_true rfl) dX6_row_33 ⟨Nat.le_of_ble_eq_true rfl, Nat.le_of_ble_eq_true rfl⟩ (fun z_29 I_31 F_32 H locs hq_30 hP hD hS => ?_)
          try dsimp only at hq_30
          obtain ⟨rfl, rfl, rfl⟩ := hq_30
          refine ki_if_eq (tgt := 41) hx hb dX6_row_36 (by decide) (by omega) (by omega) (fun c_33 => ?_) (fun c_33 => ?_)
          · skip
            have hrw9 := hrwL p0 (by omega) (by omega)
            refine lv_aload_n hx hb dX6_row_41 rfl (lv_at hl 0 rfl) ?_
            refine va_get (D := (dC, dI)) (ci := 6) (v := .ref (ma 18)) (C := RX6) (T := TX6) (N := 44) hx hb hts kt_X6 hown hK hP 0 rfl rfl 18 (by decide) (kx_word hG kq_07_mlook_1 rfl) (fun _ h9 => h9) rfl dX6_row_42 ?_
            refine lv_iload_n hx hb dX6_row_45 rfl (lv_at hl 1 rfl) ?_
            refine ki_iald (F := F_4 18) hx hb hK hP 14 13 rfl rfl (by omega) (by omega) (by decide) dX6_row_46 ?_
            have hbd_34 := hI5.hB.2 18 p0
            refine lv_istore_n (lv' := [(3, .int (iz (F_4 18 p0))), (0, .ref mo), (1, .int (iz p0)), (2, .int (iz p1))]) hx hb dX6_row_47 rfl hl (by decide) rfl (fun ls hl => ?_)
            refine lv_iload_n hx hb dX6_row_48 rfl (lv_at hl 3 rfl) ?_
            refine lv_iconst (v := iz 2) hx hb dX6_row_49 (by decide) ?_
            refine ki_icmp_ne (tgt := 64) hx hb dX6_row_50 (by decide) (by omega) (by omega) (by omega) (by omega) (fun c_35 => ?_) (fun c_35 => ?_)
            · skip
              refine lv_iload_n hx hb dX6_row_64 rfl (lv_at hl 3 rfl) ?_
              refine lv_iconst (v := iz 3) hx hb dX6_row_65 (by decide) ?_
              refine ki_icmp_ne (tgt := 79) hx hb dX6_row_66 (by decide) (by omega) (by omega) (by omega) (by omega) (fun c_36 => ?_) (fun c_36 => ?_)
              · skip
                refine lv_iload_n hx hb dX6_row_79 rfl (lv_at hl 3 rfl) ?_
                refine ki_if_ne (tgt := 87) hx hb dX6_row_80 (by decide) (by omega) (by omega) (fun c_37 => ?_) (fun c_37 => ?_)
                · skip
                  refine lv_iload_n hx hb dX6_row_87 rfl (lv_at hl 3 rfl) ?_
                  refine lv_iconst (v := iz 1) hx hb dX6_row_88 (by decide) ?_
                  refine ki_icmp_ne (tgt := 101) hx hb dX6_row_89 (by decide) (by omega) (by omega) (by omega) (by omega) (fun c_38 => ?_) (fun c_38 => ?_)
                  · skip
                    refine lv_aload_n hx hb dX6_row_101 rfl (lv_at hl 1 rfl) ?_
                    refine lv_iload_n hx hb dX6_row_102 rfl (lv_at hl 0 rfl) ?_
                    have hk39 : mWk _ _ (va_up I_3 0 0) F_4 ∧ _ := mWk.thr hI5 (v := 0) (by omega)
                    have hI39 : mIv (va_up I_3 0 0) F_4 := hI5.go hk39.1
                    have hw39 : mWk _ _ (va_up I_3 0 0) F_4 := hw5.tr hk39.1
                    have e1639 : (va_up I_3 0 0) 16 = _ := hk39.2.1
                    have e1939 : (va_up I_3 0 0) 19 = _ := hk39.2.2
                    have e139 : (va_up I_3 0 0) 1 = _ := hk39.1.2.1.1 1 (by decide)
                    refine mk_calli (As := [.int (iz (F_4 18 p0))]) (rest := []) ⟨hx, hb, hml, hown, hts⟩ (k_groupOf l dC dI mo ma cs (va_up I_3 0 0) F_4 (F_4 18 p0) H.size hI39.hB hI39.hc hI39.hn hI39.hlv (hI39.hkn (by omega)).1 (by omega)) (cwV 1 hts (kx_gV kq_10_mprint_28 kq_10_mprint_29 kq_10_mprint_30 kq_04_msmall_6 kq_10_mprint_31 rfl) rfl rfl rfl (by decide +kernel) ⟨Nat.le_of_ble_eq_true rfl, Nat.le_of_ble_eq_true rfl⟩) hP hD hK hG hZ hS hA rfl hl.1 rfl (Nat.le_of_ble_eq_true rfl) dX6_row_103 ⟨Nat.le_of_ble_eq_true rfl, Nat.le_of_ble_eq_true rfl⟩ (fun z_40 I_42 F_43 H locs hq_41 hP hD hS => ?_)
                    try dsimp only at hq_41
                    have hk44 : mWk (va_up I_3 0 0) F_4 I_42 F_43 ∧ _ := mWk.scr hI39 hq_41.1 hq_41.2.1 hq_41.2.2.1
                    have hI44 : mIv I_42 F_43 := hI39.go hk44.1
                    have hw44 : mWk _ _ I_42 F_43 := hw39.tr hk44.1
                    have e1644 := hk44.2.1
                    have e1944 := hk44.2.2
                    have hc44 := hI44.hc
                    have hx44a := hk44.1.2.1.1 1 (by decide)
                    have hrg_45 := hq_41.2.2.2
                    exact mk_ireti hx hb hr hlocks hP hD hK hS dX6_row_106 hw44
                  · skip
                    refine lv_aload_n hx hb dX6_row_92 rfl (lv_at hl 1 rfl) ?_
                    refine va_get (D := (dC, dI)) (ci := 6) (v := .ref (ma 2)) (C := RX6) (T := TX6) (N := 44) hx hb hts kt_X6 hown hK hP 0 rfl rfl 2 (by decide) (kx_word hG kq_04_msmall_12 rfl) (fun _ h9 => h9) rfl dX6_row_93 ?_
                    refine lv_iload_n hx hb dX6_row_96 rfl (lv_at hl 0 rfl) ?_
                    refine ki_iald (F := F_4 2) hx hb hK hP 1 0 rfl rfl (by omega) (by omega) (by decide) dX6_row_97 ?_
                    have hbd_46 := hI5.hB.2 2 (F_4 18 p0)
                    refine lv_goto (tgt := 106) hx hb dX6_row_98 (by decide) ?_
                    have hk47 : mWk _ _ (va_up I_3 0 0) F_4 ∧ _ := mWk.thr hI5 (v := 0) (by omega)
                    have hI47 : mIv (va_up I_3 0 0) F_4 := hI5.go hk47.1
                    have hw47 : mWk _ _ (va_up I_3 0 0) F_4 := hw5.tr hk47.1
                    have e1647 : (va_up I_3 0 0) 16 = _ := hk47.2.1
                    have e1947 : (va_up I_3 0 0) 19 = _ := hk47.2.2
                    have e147 : (va_up I_3 0 0) 1 = _ := hk47.1.2.1.1 1 (by decide)
                    exact mk_ireti hx hb hr hlocks hP hD hK hS dX6_row_106 hw47
                · skip
                  refine lv_iload_n hx hb dX6_row_83 rfl (lv_at hl 0 rfl) ?_
                  refine lv_goto (tgt := 106) hx hb dX6_row_84 (by decide) ?_
                  have hk48 : mWk _ _ (va_up I_3 0 0) F_4 ∧ _ := mWk.thr hI5 (v := 0) (by omega)
                  have hI48 : mIv (va_up I_3 0 0) F_4 := hI5.go hk48.1
                  have hw48 : mWk _ _ (va_up I_3 0 0) F_4 := hw5.tr hk48.1
                  have e1648 : (va_up I_3 0 0) 16 = _ := hk48.2.1
                  have e1948 : (va_up I_3 0 0) 19 = _ := hk48.2.2
                  have e148 : (va_up I_3 0 0) 1 = _ := hk48.1.2.1.1 1 (by decide)
                  exact mk_ireti hx hb hr hlocks hP hD hK hS dX6_row_106 hw48
              · skip
                refine lv_aload_n hx hb dX6_row_69 rfl (lv_at hl 1 rfl) ?_
                refine lv_iload_n hx hb dX6_row_70 rfl (lv_at hl 0 rfl) ?_
                have hk49 : mWk _ _ (va_up I_3 0 0) F_4 ∧ _ := mWk.thr hI5 (v := 0) (by omega)
                have hI49 : mIv (va_up I_3 0 0) F_4 := hI5.go hk49.1
                have hw49 : mWk _ _ (va_up I_3 0 0) F_4 := hw5.tr hk49.1
                have e1649 : (va_up I_3 0 0) 16 = _ := hk49.2.1
                have e1949 : (va_up I_3 0 0) 19 = _ := hk49.2.2
                have e149 : (va_up I_3 0 0) 1 = _ := hk49.1.2.1.1 1 (by decide)
                refine mk_callv (As := [.int (iz (F_4 18 p0))]) (rest := []) ⟨hx, hb, hml, hown, hts⟩ (k_gatherShown l dC dI mo ma cs (va_up I_3 0 0) F_4 (F_4 18 p0) H.size hI49.hB hI49.hc hI49.hmy (hI49.hkn (by omega)).1 hI49.hse hI49.hsu (by omega) (by omega)) (cwV 1 hts (kx_gV kq_10_mprint_12 kq_10_mprint_13 kq_10_mprint_14 kq_04_msmall_6 kq_10_mprint_15 rfl) rfl rfl rfl (by decide +kernel) ⟨Nat.le_of_ble_eq_true rfl, Nat.le_of_ble_eq_true rfl⟩) hP hD hK hG hZ hS hA rfl hl.1 rfl (Nat.le_of_ble_eq_true rfl) dX6_row_71 ⟨Nat.le_of_ble_eq_true rfl, Nat.le_of_ble_eq_true rfl⟩ (fun I_52 F_53 H locs hq_51 hP hD hS => ?_)
                try dsimp only at hq_51
                have hk54 : mWk (va_up I_3 0 0) F_4 I_52 F_53 ∧ _ := mWk.shw hI49 hq_51
                have hI54 : mIv I_52 F_53 := hI49.go hk54.1
                have hw54 : mWk _ _ I_52 F_53 := hw49.tr hk54.1
                have e1654 := hk54.2.1
                have e1954 := hk54.2.2
                have hc54 := hI54.hc
                have hx54a := hk54.1.2.1.1 1 (by decide)
                refine lv_aload_n hx hb dX6_row_74 rfl (lv_at hl 1 rfl) ?_
                refine va_get (D := (dC, dI)) (ci := 6) (v := .int (iz (I_52 35))) (C := RX6) (T := TX6) (N := 44) hx hb hts kt_X6 hown hK hP 0 rfl rfl 35 (by decide) (kx_word hG kq_09_mput_3 rfl) (fun _ h9 => h9) rfl dX6_row_75 ?_
                have hbd_55 := hI54.hB.1 35
                exact mk_ireti hx hb hr hlocks hP hD hK hS dX6_row_78 hw54
            · skip
              refine lv_aload_n hx hb dX6_row_53 rfl (lv_at hl 1 rfl) ?_
              refine lv_iload_n hx hb dX6_row_54 rfl (lv_at hl 0 rfl) ?_
              have hk56 : mWk _ _ (va_up I_3 0 0) F_4 ∧ _ := mWk.thr hI5 (v := 0) (by omega)
              have hI56 : mIv (va_up I_3 0 0) F_4 := hI5.go hk56.1
              have hw56 : mWk _ _ (va_up I_3 0 0) F_4 := hw5.tr hk56.1
              have e1656 : (va_up I_3 0 0) 16 = _ := hk56.2.1
              have e1956 : (va_up I_3 0 0) 19 = _ := hk56.2.2
              have e156 : (va_up I_3 0 0) 1 = _ := hk56.1.2.1.1 1 (by decide)
              refine mk_callv (As := [.int (iz (F_4 18 p0))]) (rest := []) ⟨hx, hb, hml, hown, hts⟩ (k_gather l dC dI mo ma cs (va_up I_3 0 0) F_4 (F_4 18 p0) H.size hI56.hB hI56.hc hI56.hln hI56.hmf (by omega) (by omega)) (cwV 1 hts (kx_gV kq_10_mprint_0 kq_10_mprint_1 kq_10_mprint_2 kq_04_msmall_6 kq_10_mprint_3 rfl) rfl rfl rfl (by decide +kernel) ⟨Nat.le_of_ble_eq_true rfl, Nat.le_of_ble_eq_true rfl⟩) hP hD hK hG hZ hS hA rfl hl.1 rfl (Nat.le_of_ble_eq_true rfl) dX6_row_55 ⟨Nat.le_of_ble_eq_true rfl, Nat.le_of_ble_eq_true rfl⟩ (fun I_59 F_60 H locs hq_58 hP hD hS => ?_)
              try dsimp only at hq_58
              have hk61 : mWk (va_up I_3 0 0) F_4 I_59 F_60 ∧ _ := mWk.gat hI56 hq_58
              have hI61 : mIv I_59 F_60 := hI56.go hk61.1
              have hw61 : mWk _ _ I_59 F_60 := hw56.tr hk61.1
              have e1661 := hk61.2.1
              have e1961 := hk61.2.2
              have hc61 := hI61.hc
              have hx61a := hk61.1.2.1.1 1 (by decide)
              refine lv_aload_n hx hb dX6_row_58 rfl (lv_at hl 1 rfl) ?_
              refine lv_iconst (v := iz (-1)) hx hb dX6_row_59 (by decide) ?_
              refine mk_calli (As := [.int (iz (-1))]) (rest := []) ⟨hx, hb, hml, hown, hts⟩ (k_locate l dC dI mo ma cs I_59 F_60 (-1) H.size hI61.hB (by have h9 := hI61.hps.2.2.1; omega) hI61.hps.2.2.2 hI61.hps.2.1 (by omega) (by omega)) (cwV 1 hts (kx_gV kq_10_mprint_4 kq_10_mprint_5 kq_10_mprint_6 kq_04_msmall_6 kq_10_mprint_7 rfl) rfl rfl rfl (by decide +kernel) ⟨Nat.le_of_ble_eq_true rfl, Nat.le_of_ble_eq_true rfl⟩) hP hD hK hG hZ hS hA rfl hl.1 rfl (Nat.le_of_ble_eq_true rfl) dX6_row_60 ⟨Nat.le_of_ble_eq_true rfl, Nat.le_of_ble_eq_true rfl⟩ (fun z_62 I_64 F_65 H locs hq_63 hP hD hS => ?_)
              try dsimp only at hq_63
              have hk66 : mWk I_59 F_60 I_64 F_65 ∧ _ := mWk.loc hI61 hq_63
              have hI66 : mIv I_64 F_65 := hI61.go hk66.1
              have hw66 : mWk _ _ I_64 F_65 := hw61.tr hk66.1
              have e1666 := hk66.2.1
              have e1966 := hk66.2.2
              have hc66 := hI66.hc
              have hx66a := hk66.1.2.1.1 1 (by decide)
              have hr9 := hq_63.2.2.2.2
              exact mk_ireti hx hb hr hlocks hP hD hK hS dX6_row_63 hw66
          · omega
        · skip
          refine lv_iconst (v := iz 1) hx hb dX6_row_26 (by decide) ?_
          refine lv_goto (tgt := 31) hx hb dX6_row_27 (by decide) ?_
          refine lv_iconst (v := iz 0) hx hb dX6_row_31 (by decide) ?_
          refine lv_iconst (v := iz 0) hx hb dX6_row_32 (by decide) ?_
          refine mk_calli (As := [.int (iz 1), .int (iz 0), .int (iz 0)]) (rest := []) ⟨hx, hb, hml, hown, hts⟩ (k_refused1 l dC dI mo ma cs I_3 F_4 0 0 H.size (by omega) (by omega) (by omega) (by omega)) (cwV 3 hts (kx_gV kq_04_msmall_8 kq_04_msmall_9 kq_04_msmall_10 kq_04_msmall_6 kq_04_msmall_11 rfl) rfl rfl rfl (by decide +kernel) ⟨Nat.le_of_ble_eq_true rfl, Nat.le_of_ble_eq_true rfl⟩) hP hD hK hG hZ hS hA rfl hl.1 rfl (Nat.le_of_ble_eq_true rfl) dX6_row_33 ⟨Nat.le_of_ble_eq_true rfl, Nat.le_of_ble_eq_true rfl⟩ (fun z_67 I_69 F_70 H locs hq_68 hP hD hS => ?_)
          try dsimp only at hq_68
          obtain ⟨rfl, rfl, rfl⟩ := hq_68
          refine ki_if_eq (tgt := 41) hx hb dX6_row_36 (by decide) (by omega) (by omega) (fun c_71 => ?_) (fun c_71 => ?_)
          · omega
          · skip
            refine lv_iconst (v := iz 0) hx hb dX6_row_39 (by decide) ?_
            have hk72 : mWk _ _ (va_up I_3 0 1) F_4 ∧ _ := mWk.thr hI5 (v := 1) (by omega)
            have hI72 : mIv (va_up I_3 0 1) F_4 := hI5.go hk72.1
            have hw72 : mWk _ _ (va_up I_3 0 1) F_4 := hw5.tr hk72.1
            have e1672 : (va_up I_3 0 1) 16 = _ := hk72.2.1
            have e1972 : (va_up I_3 0 1) 19 = _ := hk72.2.2
            have e172 : (va_up I_3 0 1) 1 = _ := hk72.1.2.1.1 1 (by decide)
            exact mk_ireti hx hb hr hlocks hP hD hK hS dX6_row_40 hw72
set_option maxHeartbeats 4000000 in
set_option maxRecDepth 100000 in
theorem k_locator (l : Launch) (dC : Nat → ClassId) (dI : Nat → Nat → Nat) (mo : Nat) (ma : Nat → Nat) (cs : Nat → ClassId) (I : Nat → Int) (F : Nat → Int → Int) (p0 : Int) (p1 : Int) (p2 : Int) (sz : Nat) (hI : mIv I F) (hp01 : -2147483648 ≤ p0) (hp02 : p0 < 2147483648) (hp11 : -2147483648 ≤ p1) (hp12 : p1 < 2147483648) (hp21 : -2147483648 ≤ p2) (hp22 : p2 < 2147483648) : mMi l yX6_locator (.code yX6_locator cX6_locator 5 (some .int)) 5 120 dC dI mo ma cs I F [.ref mo, .int (iz p0), .int (iz p1), .int (iz p2)] sz (fun (r : Int) (I' : Nat → Int) (F' : Nat → Int → Int) => mWk I F I' F') := by
  refine Met.ofW (cc := cX6_locator) (maxL := 5) (ret := (some .int)) (by decide) rfl ?_
  intro p e s m args below meth c s₁ B hml hv
  obtain ⟨rfl, hsz, hP, hK, hD0, hG, hZ⟩ := hv
  have hx := B.exec
  have hb := B.bytes
  have hr := B.returns
  have hts := kx_hts (a := ([.ref mo, .int (iz p0), .int (iz p1), .int (iz p2)] : List Value).toArray) hG
  have hown : s.vm.findClass RX6 = some m.cls := findClass_of_methodNamed B.named
  have hlocks := B.notSynchronized
  subst hsz
  have hD := hD0.self (sz := s.heap.size)
  generalize hAe : va_A (mW mo ma cs I F) s.heap.size = A at hD hZ ⊢
  have hA : ∀ q : Nat, s.heap.size ≤ q → A q := fun q h => by rw [← hAe]; exact Or.inr h
  have hS : va_S A s.heap s.heap [] := va_S.rf
  have hl := lv_entry ([.ref mo, .int (iz p0), .int (iz p1), .int (iz p2)]) (n := 5) (Nat.le_of_ble_eq_true rfl)
  rw [lg_entry_eq]
  generalize (lg_sl ([.ref mo, .int (iz p0), .int (iz p1), .int (iz p2)]) ++ List.replicate (5 - (lg_sl ([.ref mo, .int (iz p0), .int (iz p1), .int (iz p2)])).length) Slot.unset).toArray = ls at hl ⊢
  have hl : lv_has ls 5 [(0, .ref mo), (1, .int (iz p0)), (2, .int (iz p1)), (3, .int (iz p2))] := hl
  have hW0 : mWk I F I F := mWk.rf hI
  have hc0 := hI.hc
  refine lv_aload_n hx hb dX6_locator_0 rfl (lv_at hl 0 rfl) ?_
  refine mk_callv (As := []) (rest := []) ⟨hx, hb, hml, hown, hts⟩ (k_look l dC dI mo ma cs I F  s.heap.size hI.hB hI.hc hI.hn hI.hlv hI.hkn hI.hk01) (cwV 0 hts (kx_gV kq_11_mask_0 kq_11_mask_1 kq_11_mask_2 kq_04_msmall_6 kq_11_mask_3 rfl) rfl rfl rfl (by decide +kernel) ⟨Nat.le_of_ble_eq_true rfl, Nat.le_of_ble_eq_true rfl⟩) hP hD hK hG hZ hS hA rfl hl.1 rfl (Nat.le_of_ble_eq_true rfl) dX6_locator_1 ⟨Nat.le_of_ble_eq_true rfl, Nat.le_of_ble_eq_true rfl⟩ (fun I_3 F_4 H locs hq_2 hP hD hS => ?_)
  try dsimp only at hq_2
  have hk5 : mWk I F I_3 F_4 := mWk.look hI hq_2
  have hI5 : mIv I_3 F_4 := hI.go hk5
  have hw5 : mWk _ _ I_3 F_4 := hW0.tr hk5
  have e165 : I_3 16 = 1 := hq_2.2.2.1
  have hc5 := hI5.hc
  obtain ⟨hsmL, hszL, hrwL⟩ := hI5.hkn (by omega)
  refine lv_aload_n hx hb dX6_locator_4 rfl (lv_at hl 0 rfl) ?_
  refine lv_iload_n hx hb dX6_locator_5 rfl (lv_at hl 1 rfl) ?_
  refine ki_if_lt (tgt := 17) hx hb dX6_locator_6 (by decide) (by omega) (by omega) (fun c_6 => ?_) (fun c_6 => ?_)
  · skip
    refine lv_iconst (v := iz 1) hx hb dX6_locator_17 (by decide) ?_
    refine lv_goto (tgt := 22) hx hb dX6_locator_18 (by decide) ?_
    refine lv_iconst (v := iz 0) hx hb dX6_locator_22 (by decide) ?_
    refine lv_iconst (v := iz 0) hx hb dX6_locator_23 (by decide) ?_
    refine mk_calli (As := [.int (iz 1), .int (iz 0), .int (iz 0)]) (rest := []) ⟨hx, hb, hml, hown, hts⟩ (k_refused1 l dC dI mo ma cs I_3 F_4 0 0 H.size (by omega) (by omega) (by omega) (by omega)) (cwV 3 hts (kx_gV kq_04_msmall_8 kq_04_msmall_9 kq_04_msmall_10 kq_04_msmall_6 kq_04_msmall_11 rfl) rfl rfl rfl (by decide +kernel) ⟨Nat.le_of_ble_eq_true rfl, Nat.le_of_ble_eq_true rfl⟩) hP hD hK hG hZ hS hA rfl hl.1 rfl (Nat.le_of_ble_eq_true rfl) dX6_locator_24 ⟨Nat.le_of_ble_eq_true rfl, Nat.le_of_ble_eq_true rfl⟩ (fun z_7 I_9 F_10 H locs hq_8 hP hD hS => ?_)
    try dsimp only at hq_8
    obtain ⟨rfl, rfl, rfl⟩ := hq_8
    refine ki_if_eq (tgt := 32) hx hb dX6_locator_27 (by decide) (by omega) (by omega) (fun c_11 => ?_) (fun c_11 => ?_)
    · omega
    · skip
      refine lv_iconst (v := iz 0) hx hb dX6_locator_30 (by decide) ?_
      have hk12 : mWk _ _ (va_up I_3 0 1) F_4 ∧ _ := mWk.thr hI5 (v := 1) (by omega)
      have hI12 : mIv (va_up I_3 0 1) F_4 := hI5.go hk12.1
      have hw12 : mWk _ _ (va_up I_3 0 1) F_4 := hw5.tr hk12.1
      have e1612 : (va_up I_3 0 1) 16 = _ := hk12.2.1
      have e1912 : (va_up I_3 0 1) 19 = _ := hk12.2.2
      have e112 : (va_up I_3 0 1) 1 = _ := hk12.1.2.1.1 1 (by decide)
      exact mk_ireti hx hb hr hlocks hP hD hK hS dX6_locator_31 hw12
  · skip
    refine lv_iload_n hx hb dX6_locator_9 rfl (lv_at hl 1 rfl) ?_
    refine lv_aload_n hx hb dX6_locator_10 rfl (lv_at hl 0 rfl) ?_
    refine va_get (D := (dC, dI)) (ci := 6) (v := .int (iz (I_3 19))) (C := RX6) (T := TX6) (N := 44) hx hb hts kt_X6 hown hK hP 0 rfl rfl 19 (by decide) (kx_word hG kq_07_mlook_0 rfl) (fun _ h9 => h9) rfl dX6_locator_11 ?_
    have hbd_13 := hI5.hB.1 19
    refine ki_icmp_lt (tgt := 21) hx hb dX6_locator_14 (by decide) (by omega) (by omega) (by omega) (by omega) (fun c_14 => ?_) (fun c_14 => ?_)
    · skip
      refine lv_iconst (v := iz 0) hx hb dX6_locator_21 (by decide) ?_
      refine lv_iconst (v := iz 0) hx hb dX6_locator_22 (by decide) ?_
      refine lv_iconst (v := iz 0) hx hb dX6_locator_23 (by decide) ?_
      refine mk_calli (As := [.int (iz 0), .int (iz 0), .int (iz 0)]) (rest := []) ⟨hx, hb, hml, hown, hts⟩ (k_refused0 l dC dI mo ma cs I_3 F_4  H.size ) (cwV 3 hts (kx_gV kq_04_msmall_8 kq_04_msmall_9 kq_04_msmall_10 kq_04_msmall_6 kq_04_msmall_11 rfl) rfl rfl rfl (by decide +kernel) ⟨Nat.le_of_ble_eq_true rfl, Nat.le_of_ble_eq_true rfl⟩) hP hD hK hG hZ hS hA rfl hl.1 rfl (Nat.le_of_ble_eq_true rfl) dX6_locator_24 ⟨Nat.le_of_ble_eq_true rfl, Nat.le_of_ble_eq_true rfl⟩ (fun z_15 I_17 F_18 H locs hq_16 hP hD hS => ?_)
      try dsimp only at hq_16
      obtain ⟨rfl, rfl, rfl⟩ := hq_16
      refine ki_if_eq (tgt := 32) hx hb dX6_locator_27 (by decide) (by omega) (by omega) (fun c_19 => ?_) (fun c_19 => ?_)
      · skip
        have hrw9 := hrwL p0 (by omega) (by omega)
        refine lv_aload_n hx hb dX6_locator_32 rfl (lv_at hl 0 rfl) ?_
        refine lv_aload_n hx hb dX6_locator_33 rfl (lv_at hl 0 rfl) ?_
        refine va_get (D := (dC, dI)) (ci := 6) (v := .ref (ma 18)) (C := RX6) (T := TX6) (N := 44) hx hb hts kt_X6 hown hK hP 0 rfl rfl 18 (by decide) (kx_word hG kq_07_mlook_1 rfl) (fun _ h9 => h9) rfl dX6_locator_34 ?_
        refine lv_iload_n hx hb dX6_locator_37 rfl (lv_at hl 1 rfl) ?_
        refine ki_iald (F := F_4 18) hx hb hK hP 14 13 rfl rfl (by omega) (by omega) (by decide) dX6_locator_38 ?_
        have hbd_20 := hI5.hB.2 18 p0
        have hk21 : mWk _ _ (va_up I_3 0 0) F_4 ∧ _ := mWk.thr hI5 (v := 0) (by omega)
        have hI21 : mIv (va_up I_3 0 0) F_4 := hI5.go hk21.1
        have hw21 : mWk _ _ (va_up I_3 0 0) F_4 := hw5.tr hk21.1
        have e1621 : (va_up I_3 0 0) 16 = _ := hk21.2.1
        have e1921 : (va_up I_3 0 0) 19 = _ := hk21.2.2
        have e121 : (va_up I_3 0 0) 1 = _ := hk21.1.2.1.1 1 (by decide)
        refine mk_callv (As := [.int (iz (F_4 18 p0))]) (rest := []) ⟨hx, hb, hml, hown, hts⟩ (k_gather l dC dI mo ma cs (va_up I_3 0 0) F_4 (F_4 18 p0) H.size hI21.hB hI21.hc hI21.hln hI21.hmf (by omega) (by omega)) (cwV 1 hts (kx_gV kq_10_mprint_0 kq_10_mprint_1 kq_10_mprint_2 kq_04_msmall_6 kq_10_mprint_3 rfl) rfl rfl rfl (by decide +kernel) ⟨Nat.le_of_ble_eq_true rfl, Nat.le_of_ble_eq_true rfl⟩) hP hD hK hG hZ hS hA rfl hl.1 rfl (Nat.le_of_ble_eq_true rfl) dX6_locator_39 ⟨Nat.le_of_ble_eq_true rfl, Nat.le_of_ble_eq_true rfl⟩ (fun I_24 F_25 H locs hq_23 hP hD hS => ?_)
        try dsimp only at hq_23
        have hk26 : mWk (va_up I_3 0 0) F_4 I_24 F_25 ∧ _ := mWk.gat hI21 hq_23
        have hI26 : mIv I_24 F_25 := hI21.go hk26.1
        have hw26 : mWk _ _ I_24 F_25 := hw21.tr hk26.1
        have e1626 := hk26.2.1
        have e1926 := hk26.2.2
        have hc26 := hI26.hc
        have hx26a := hk26.1.2.1.1 1 (by decide)
        refine lv_aload_n hx hb dX6_locator_42 rfl (lv_at hl 0 rfl) ?_
        refine lv_iload_n hx hb dX6_locator_43 rfl (lv_at hl 2 rfl) ?_
        refine mk_calli (As := [.int (iz p1)]) (rest := []) ⟨hx, hb, hml, hown, hts⟩ (k_locate l dC dI mo ma cs I_24 F_25 p1 H.size hI26.hB (by have h9 := hI26.hps.2.2.1; omega) hI26.hps.2.2.2 hI26.hps.2.1 (by omega) (by omega)) (cwV 1 hts (kx_gV kq_10_mprint_4 kq_10_mprint_5 kq_10_mprint_6 kq_04_msmall_6 kq_10_mprint_7 rfl) rfl rfl rfl (by decide +kernel) ⟨Nat.le_of_ble_eq_true rfl, Nat.le_of_ble_eq_true rfl⟩) hP hD hK hG hZ hS hA rfl hl.1 rfl (Nat.le_of_ble_eq_true rfl) dX6_locator_44 ⟨Nat.le_of_ble_eq_true rfl, Nat.le_of_ble_eq_true rfl⟩ (fun z_27 I_29 F_30 H locs hq_28 hP hD hS => ?_)
        try dsimp only at hq_28
        have hk31 : mWk I_24 F_25 I_29 F_30 ∧ _ := mWk.loc hI26 hq_28
        have hI31 : mIv I_29 F_30 := hI26.go hk31.1
        have hw31 : mWk _ _ I_29 F_30 := hw26.tr hk31.1
        have e1631 := hk31.2.1
        have e1931 := hk31.2.2
        have hc31 := hI31.hc
        have hx31a := hk31.1.2.1.1 1 (by decide)
        have hr9 := hq_28.2.2.2.2
        refine lv_istore (lv' := [(4, .int (iz z_27)), (0, .ref mo), (1, .int (iz p0)), (2, .int (iz p1)), (3, .int (iz p2))]) hx hb dX6_locator_47 hl (by decide) rfl (fun ls hl => ?_)
        refine lv_aload_n hx hb dX6_locator_49 rfl (lv_at hl 1 rfl) ?_
        refine lv_iload_n hx hb dX6_locator_50 rfl (lv_at hl 3 rfl) ?_
        refine ki_if_lt (tgt := 69) hx hb dX6_locator_51 (by decide) (by omega) (by omega) (fun c_32 => ?_) (fun c_32 => ?_)
        · skip
          refine lv_iconst (v := iz 1) hx hb dX6_locator_69 (by decide) ?_
          refine lv_goto (tgt := 74) hx hb dX6_locator_70 (by decide) ?_
          refine lv_iconst (v := iz 0) hx hb dX6_locator_74 (by decide) ?_
          refine lv_iconst (v := iz 0) hx hb dX6_locator_75 (by decide) ?_
          refine mk_calli (As := [.int (iz 1), .int (iz 0), .int (iz 0)]) (rest := []) ⟨hx, hb, hml, hown, hts⟩ (k_refused1 l dC dI mo ma cs I_29 F_30 0 0 H.size (by omega) (by omega) (by omega) (by omega)) (cwV 3 hts (kx_gV kq_04_msmall_8 kq_04_msmall_9 kq_04_msmall_10 kq_04_msmall_6 kq_04_msmall_11 rfl) rfl rfl rfl (by decide +kernel) ⟨Nat.le_of_ble_eq_true rfl, Nat.le_of_ble_eq_true rfl⟩) hP hD hK hG hZ hS hA rfl hl.1 rfl (Nat.le_of_ble_eq_true rfl) dX6_locator_76 ⟨Nat.le_of_ble_eq_true rfl, Nat.le_of_ble_eq_true rfl⟩ (fun z_33 I_35 F_36 H locs hq_34 hP hD hS => ?_)
          try dsimp only at hq_34
          obtain ⟨rfl, rfl, rfl⟩ := hq_34
          refine ki_if_eq (tgt := 84) hx hb dX6_locator_79 (by decide) (by omega) (by omega) (fun c_37 => ?_) (fun c_37 => ?_)
          · omega
          · skip
            refine lv_iconst (v := iz 0) hx hb dX6_locator_82 (by decide) ?_
            have hk38 : mWk _ _ (va_up I_29 0 1) F_30 ∧ _ := mWk.thr hI31 (v := 1) (by omega)
            have hI38 : mIv (va_up I_29 0 1) F_30 := hI31.go hk38.1
            have hw38 : mWk _ _ (va_up I_29 0 1) F_30 := hw31.tr hk38.1
            have e1638 : (va_up I_29 0 1) 16 = _ := hk38.2.1
            have e1938 : (va_up I_29 0 1) 19 = _ := hk38.2.2
            have e138 : (va_up I_29 0 1) 1 = _ := hk38.1.2.1.1 1 (by decide)
            exact mk_ireti hx hb hr hlocks hP hD hK hS dX6_locator_83 hw38
        · skip
          refine lv_iload_n hx hb dX6_locator_54 rfl (lv_at hl 3 rfl) ?_
          refine lv_iload hx hb dX6_locator_55 (lv_at hl 0 rfl) ?_
          refine ki_icmp_ge (tgt := 69) hx hb dX6_locator_57 (by decide) (by omega) (by omega) (by omega) (by omega) (fun c_39 => ?_) (fun c_39 => ?_)
          · skip
            refine lv_iconst (v := iz 1) hx hb dX6_locator_69 (by decide) ?_
            refine lv_goto (tgt := 74) hx hb dX6_locator_70 (by decide) ?_
            refine lv_iconst (v := iz 0) hx hb dX6_locator_74 (by decide) ?_
            refine lv_iconst (v := iz 0) hx hb dX6_locator_75 (by decide) ?_
            refine mk_calli (As := [.int (iz 1), .int (iz 0), .int (iz 0)]) (rest := []) ⟨hx, hb, hml, hown, hts⟩ (k_refused1 l dC dI mo ma cs I_29 F_30 0 0 H.size (by omega) (by omega) (by omega) (by omega)) (cwV 3 hts (kx_gV kq_04_msmall_8 kq_04_msmall_9 kq_04_msmall_10 kq_04_msmall_6 kq_04_msmall_11 rfl) rfl rfl rfl (by decide +kernel) ⟨Nat.le_of_ble_eq_true rfl, Nat.le_of_ble_eq_true rfl⟩) hP hD hK hG hZ hS hA rfl hl.1 rfl (Nat.le_of_ble_eq_true rfl) dX6_locator_76 ⟨Nat.le_of_ble_eq_true rfl, Nat.le_of_ble_eq_true rfl⟩ (fun z_40 I_42 F_43 H locs hq_41 hP hD hS => ?_)
            try dsimp only at hq_41
            obtain ⟨rfl, rfl, rfl⟩ := hq_41
            refine ki_if_eq (tgt := 84) hx hb dX6_locator_79 (by decide) (by omega) (by omega) (fun c_44 => ?_) (fun c_44 => ?_)
            · omega
            · skip
              refine lv_iconst (v := iz 0) hx hb dX6_locator_82 (by decide) ?_
              have hk45 : mWk _ _ (va_up I_29 0 1) F_30 ∧ _ := mWk.thr hI31 (v := 1) (by omega)
              have hI45 : mIv (va_up I_29 0 1) F_30 := hI31.go hk45.1
              have hw45 : mWk _ _ (va_up I_29 0 1) F_30 := hw31.tr hk45.1
              have e1645 : (va_up I_29 0 1) 16 = _ := hk45.2.1
              have e1945 : (va_up I_29 0 1) 19 = _ := hk45.2.2
              have e145 : (va_up I_29 0 1) 1 = _ := hk45.1.2.1.1 1 (by decide)
              exact mk_ireti hx hb hr hlocks hP hD hK hS dX6_locator_83 hw45
          · skip
            refine lv_iload_n hx hb dX6_locator_60 rfl (lv_at hl 4 rfl) ?_
            refine ki_if_lt (tgt := 69) hx hb dX6_locator_61 (by decide) (by omega) (by omega) (fun c_46 => ?_) (fun c_46 => ?_)
            · skip
              refine lv_iconst (v := iz 1) hx hb dX6_locator_69 (by decide) ?_
              refine lv_goto (tgt := 74) hx hb dX6_locator_70 (by decide) ?_
              refine lv_iconst (v := iz 0) hx hb dX6_locator_74 (by decide) ?_
              refine lv_iconst (v := iz 0) hx hb dX6_locator_75 (by decide) ?_
              refine mk_calli (As := [.int (iz 1), .int (iz 0), .int (iz 0)]) (rest := []) ⟨hx, hb, hml, hown, hts⟩ (k_refused1 l dC dI mo ma cs I_29 F_30 0 0 H.size (by omega) (by omega) (by omega) (by omega)) (cwV 3 hts (kx_gV kq_04_msmall_8 kq_04_msmall_9 kq_04_msmall_10 kq_04_msmall_6 kq_04_msmall_11 rfl) rfl rfl rfl (by decide +kernel) ⟨Nat.le_of_ble_eq_true rfl, Nat.le_of_ble_eq_true rfl⟩) hP hD hK hG hZ hS hA rfl hl.1 rfl (Nat.le_of_ble_eq_true rfl) dX6_locator_76 ⟨Nat.le_of_ble_eq_true rfl, Nat.le_of_ble_eq_true rfl⟩ (fun z_47 I_49 F_50 H locs hq_48 hP hD hS => ?_)
              try dsimp only at hq_48
              obtain ⟨rfl, rfl, rfl⟩ := hq_48
              refine ki_if_eq (tgt := 84) hx hb dX6_locator_79 (by decide) (by omega) (by omega) (fun c_51 => ?_) (fun c_51 => ?_)
              · omega
              · skip
                refine lv_iconst (v := iz 0) hx hb dX6_locator_82 (by decide) ?_
                have hk52 : mWk _ _ (va_up I_29 0 1) F_30 ∧ _ := mWk.thr hI31 (v := 1) (by omega)
                have hI52 : mIv (va_up I_29 0 1) F_30 := hI31.go hk52.1
                have hw52 : mWk _ _ (va_up I_29 0 1) F_30 := hw31.tr hk52.1
                have e1652 : (va_up I_29 0 1) 16 = _ := hk52.2.1
                have e1952 : (va_up I_29 0 1) 19 = _ := hk52.2.2
                have e152 : (va_up I_29 0 1) 1 = _ := hk52.1.2.1.1 1 (by decide)
                exact mk_ireti hx hb hr hlocks hP hD hK hS dX6_locator_83 hw52
            · skip
              refine lv_iload_n hx hb dX6_locator_64 rfl (lv_at hl 4 rfl) ?_
              refine lv_iconst (v := iz 2) hx hb dX6_locator_65 (by decide) ?_
              refine ki_icmp_le (tgt := 73) hx hb dX6_locator_66 (by decide) (by omega) (by omega) (by omega) (by omega) (fun c_53 => ?_) (fun c_53 => ?_)
              · skip
                refine lv_iconst (v := iz 0) hx hb dX6_locator_73 (by decide) ?_
                refine lv_iconst (v := iz 0) hx hb dX6_locator_74 (by decide) ?_
                refine lv_iconst (v := iz 0) hx hb dX6_locator_75 (by decide) ?_
                refine mk_calli (As := [.int (iz 0), .int (iz 0), .int (iz 0)]) (rest := []) ⟨hx, hb, hml, hown, hts⟩ (k_refused0 l dC dI mo ma cs I_29 F_30  H.size ) (cwV 3 hts (kx_gV kq_04_msmall_8 kq_04_msmall_9 kq_04_msmall_10 kq_04_msmall_6 kq_04_msmall_11 rfl) rfl rfl rfl (by decide +kernel) ⟨Nat.le_of_ble_eq_true rfl, Nat.le_of_ble_eq_true rfl⟩) hP hD hK hG hZ hS hA rfl hl.1 rfl (Nat.le_of_ble_eq_true rfl) dX6_locator_76 ⟨Nat.le_of_ble_eq_true rfl, Nat.le_of_ble_eq_true rfl⟩ (fun z_54 I_56 F_57 H locs hq_55 hP hD hS => ?_)
                try dsimp only at hq_55
                obtain ⟨rfl, rfl, rfl⟩ := hq_55
                refine ki_if_eq (tgt := 84) hx hb dX6_locator_79 (by decide) (by omega) (by omega) (fun c_58 => ?_) (fun c_58 => ?_)
                · skip
                  refine lv_iload_n hx hb dX6_locator_84 rfl (lv_at hl 4 rfl) ?_
                  refine ki_if_ne (tgt := 95) hx hb dX6_locator_85 (by decide) (by omega) (by omega) (fun c_59 => ?_) (fun c_59 => ?_)
                  · skip
                    refine lv_iload_n hx hb dX6_locator_95 rfl (lv_at hl 4 rfl) ?_
                    refine lv_iconst (v := iz 1) hx hb dX6_locator_96 (by decide) ?_
                    refine ki_icmp_ne (tgt := 107) hx hb dX6_locator_97 (by decide) (by omega) (by omega) (by omega) (by omega) (fun c_60 => ?_) (fun c_60 => ?_)
                    · skip
                      refine lv_aload_n hx hb dX6_locator_107 rfl (lv_at hl 1 rfl) ?_
                      refine va_get (D := (dC, dI)) (ci := 6) (v := .int (iz (I_29 33))) (C := RX6) (T := TX6) (N := 44) hx hb hts kt_X6 hown hK hP 0 rfl rfl 33 (by decide) (kx_word hG kq_09_mput_2 rfl) (fun _ h9 => h9) rfl dX6_locator_108 ?_
                      have hbd_61 := hI31.hB.1 33
                      have hk62 : mWk _ _ (va_up I_29 0 0) F_30 ∧ _ := mWk.thr hI31 (v := 0) (by omega)
                      have hI62 : mIv (va_up I_29 0 0) F_30 := hI31.go hk62.1
                      have hw62 : mWk _ _ (va_up I_29 0 0) F_30 := hw31.tr hk62.1
                      have e1662 : (va_up I_29 0 0) 16 = _ := hk62.2.1
                      have e1962 : (va_up I_29 0 0) 19 = _ := hk62.2.2
                      have e162 : (va_up I_29 0 0) 1 = _ := hk62.1.2.1.1 1 (by decide)
                      exact mk_ireti hx hb hr hlocks hP hD hK hS dX6_locator_111 hw62
                    · skip
                      refine lv_aload_n hx hb dX6_locator_100 rfl (lv_at hl 1 rfl) ?_
                      refine va_get (D := (dC, dI)) (ci := 6) (v := .int (iz (I_29 32))) (C := RX6) (T := TX6) (N := 44) hx hb hts kt_X6 hown hK hP 0 rfl rfl 32 (by decide) (kx_word hG kq_09_mput_1 rfl) (fun _ h9 => h9) rfl dX6_locator_101 ?_
                      have hbd_63 := hI31.hB.1 32
                      refine lv_goto (tgt := 111) hx hb dX6_locator_104 (by decide) ?_
                      have hk64 : mWk _ _ (va_up I_29 0 0) F_30 ∧ _ := mWk.thr hI31 (v := 0) (by omega)
                      have hI64 : mIv (va_up I_29 0 0) F_30 := hI31.go hk64.1
                      have hw64 : mWk _ _ (va_up I_29 0 0) F_30 := hw31.tr hk64.1
                      have e1664 : (va_up I_29 0 0) 16 = _ := hk64.2.1
                      have e1964 : (va_up I_29 0 0) 19 = _ := hk64.2.2
                      have e164 : (va_up I_29 0 0) 1 = _ := hk64.1.2.1.1 1 (by decide)
                      exact mk_ireti hx hb hr hlocks hP hD hK hS dX6_locator_111 hw64
                  · skip
                    refine lv_aload_n hx hb dX6_locator_88 rfl (lv_at hl 1 rfl) ?_
                    refine va_get (D := (dC, dI)) (ci := 6) (v := .int (iz (I_29 31))) (C := RX6) (T := TX6) (N := 44) hx hb hts kt_X6 hown hK hP 0 rfl rfl 31 (by decide) (kx_word hG kq_09_mput_0 rfl) (fun _ h9 => h9) rfl dX6_locator_89 ?_
                    have hbd_65 := hI31.hB.1 31
                    refine lv_goto (tgt := 111) hx hb dX6_locator_92 (by decide) ?_
                    have hk66 : mWk _ _ (va_up I_29 0 0) F_30 ∧ _ := mWk.thr hI31 (v := 0) (by omega)
                    have hI66 : mIv (va_up I_29 0 0) F_30 := hI31.go hk66.1
                    have hw66 : mWk _ _ (va_up I_29 0 0) F_30 := hw31.tr hk66.1
                    have e1666 : (va_up I_29 0 0) 16 = _ := hk66.2.1
                    have e1966 : (va_up I_29 0 0) 19 = _ := hk66.2.2
                    have e166 : (va_up I_29 0 0) 1 = _ := hk66.1.2.1.1 1 (by decide)
                    exact mk_ireti hx hb hr hlocks hP hD hK hS dX6_locator_111 hw66
                · omega
              · skip
                refine lv_iconst (v := iz 1) hx hb dX6_locator_69 (by decide) ?_
                refine lv_goto (tgt := 74) hx hb dX6_locator_70 (by decide) ?_
                refine lv_iconst (v := iz 0) hx hb dX6_locator_74 (by decide) ?_
                refine lv_iconst (v := iz 0) hx hb dX6_locator_75 (by decide) ?_
                refine mk_calli (As := [.int (iz 1), .int (iz 0), .int (iz 0)]) (rest := []) ⟨hx, hb, hml, hown, hts⟩ (k_refused1 l dC dI mo ma cs I_29 F_30 0 0 H.size (by omega) (by omega) (by omega) (by omega)) (cwV 3 hts (kx_gV kq_04_msmall_8 kq_04_msmall_9 kq_04_msmall_10 kq_04_msmall_6 kq_04_msmall_11 rfl) rfl rfl rfl (by decide +kernel) ⟨Nat.le_of_ble_eq_true rfl, Nat.le_of_ble_eq_true rfl⟩) hP hD hK hG hZ hS hA rfl hl.1 rfl (Nat.le_of_ble_eq_true rfl) dX6_locator_76 ⟨Nat.le_of_ble_eq_true rfl, Nat.le_of_ble_eq_true rfl⟩ (fun z_67 I_69 F_70 H locs hq_68 hP hD hS => ?_)
                try dsimp only at hq_68
                obtain ⟨rfl, rfl, rfl⟩ := hq_68
                refine ki_if_eq (tgt := 84) hx hb dX6_locator_79 (by decide) (by omega) (by omega) (fun c_71 => ?_) (fun c_71 => ?_)
                · omega
                · skip
                  refine lv_iconst (v := iz 0) hx hb dX6_locator_82 (by decide) ?_
                  have hk72 : mWk _ _ (va_up I_29 0 1) F_30 ∧ _ := mWk.thr hI31 (v := 1) (by omega)
                  have hI72 : mIv (va_up I_29 0 1) F_30 := hI31.go hk72.1
                  have hw72 : mWk _ _ (va_up I_29 0 1) F_30 := hw31.tr hk72.1
                  have e1672 : (va_up I_29 0 1) 16 = _ := hk72.2.1
                  have e1972 : (va_up I_29 0 1) 19 = _ := hk72.2.2
                  have e172 : (va_up I_29 0 1) 1 = _ := hk72.1.2.1.1 1 (by decide)
                  exact mk_ireti hx hb hr hlocks hP hD hK hS dX6_locator_83 hw72
      · omega
    · skip
      refine lv_iconst (v := iz 1) hx hb dX6_locator_17 (by decide) ?_
      refine lv_goto (tgt := 22) hx hb dX6_locator_18 (by decide) ?_
      refine lv_iconst (v := iz 0) hx hb dX6_locator_22 (by decide) ?_
      refine lv_iconst (v := iz 0) hx hb dX6_locator_23 (by decide) ?_
      refine mk_calli (As := [.int (iz 1), .int (iz 0), .int (iz 0)]) (rest := []) ⟨hx, hb, hml, hown, hts⟩ (k_refused1 l dC dI mo ma cs I_3 F_4 0 0 H.size (by omega) (by omega) (by omega) (by omega)) (cwV 3 hts (kx_gV kq_04_msmall_8 kq_04_msmall_9 kq_04_msmall_10 kq_04_msmall_6 kq_04_msmall_11 rfl) rfl rfl rfl (by decide +kernel) ⟨Nat.le_of_ble_eq_true rfl, Nat.le_of_ble_eq_true rfl⟩) hP hD hK hG hZ hS hA rfl hl.1 rfl (Nat.le_of_ble_eq_true rfl) dX6_locator_24 ⟨Nat.le_of_ble_eq_true rfl, Nat.le_of_ble_eq_true rfl⟩ (fun z_73 I_75 F_76 H locs hq_74 hP hD hS => ?_)
      try dsimp only at hq_74
      obtain ⟨rfl, rfl, rfl⟩ := hq_74
      refine ki_if_eq (tgt := 32) hx hb dX6_locator_27 (by decide) (by omega) (by omega) (fun c_77 => ?_) (fun c_77 => ?_)
      · omega
      · skip
        refine lv_iconst (v := iz 0) hx hb dX6_locator_30 (by decide) ?_
        have hk78 : mWk _ _ (va_up I_3 0 1) F_4 ∧ _ := mWk.thr hI5 (v := 1) (by omega)
        have hI78 : mIv (va_up I_3 0 1) F_4 := hI5.go hk78.1
        have hw78 : mWk _ _ (va_up I_3 0 1) F_4 := hw5.tr hk78.1
        have e1678 : (va_up I_3 0 1) 16 = _ := hk78.2.1
        have e1978 : (va_up I_3 0 1) 19 = _ := hk78.2.2
        have e178 : (va_up I_3 0 1) 1 = _ := hk78.1.2.1.1 1 (by decide)
        exact mk_ireti hx hb hr hlocks hP hD hK hS dX6_locator_31 hw78
set_option maxHeartbeats 4000000 in
set_option maxRecDepth 100000 in
theorem k_compare (l : Launch) (dC : Nat → ClassId) (dI : Nat → Nat → Nat) (mo : Nat) (ma : Nat → Nat) (cs : Nat → ClassId) (I : Nat → Int) (F : Nat → Int → Int) (p0 : Int) (p1 : Int) (sz : Nat) (hI : mIv I F) (hp01 : -2147483648 ≤ p0) (hp02 : p0 < 2147483648) (hp11 : -2147483648 ≤ p1) (hp12 : p1 < 2147483648) : mMi l yX6_compare (.code yX6_compare cX6_compare 3 (some .int)) 3 72 dC dI mo ma cs I F [.ref mo, .int (iz p0), .int (iz p1)] sz (fun (r : Int) (I' : Nat → Int) (F' : Nat → Int → Int) => mWk I F I' F') := by
  refine Met.ofW (cc := cX6_compare) (maxL := 3) (ret := (some .int)) (by decide) rfl ?_
  intro p e s m args below meth c s₁ B hml hv
  obtain ⟨rfl, hsz, hP, hK, hD0, hG, hZ⟩ := hv
  have hx := B.exec
  have hb := B.bytes
  have hr := B.returns
  have hts := kx_hts (a := ([.ref mo, .int (iz p0), .int (iz p1)] : List Value).toArray) hG
  have hown : s.vm.findClass RX6 = some m.cls := findClass_of_methodNamed B.named
  have hlocks := B.notSynchronized
  subst hsz
  have hD := hD0.self (sz := s.heap.size)
  generalize hAe : va_A (mW mo ma cs I F) s.heap.size = A at hD hZ ⊢
  have hA : ∀ q : Nat, s.heap.size ≤ q → A q := fun q h => by rw [← hAe]; exact Or.inr h
  have hS : va_S A s.heap s.heap [] := va_S.rf
  have hl := lv_entry ([.ref mo, .int (iz p0), .int (iz p1)]) (n := 3) (Nat.le_of_ble_eq_true rfl)
  rw [lg_entry_eq]
  generalize (lg_sl ([.ref mo, .int (iz p0), .int (iz p1)]) ++ List.replicate (3 - (lg_sl ([.ref mo, .int (iz p0), .int (iz p1)])).length) Slot.unset).toArray = ls at hl ⊢
  have hl : lv_has ls 3 [(0, .ref mo), (1, .int (iz p0)), (2, .int (iz p1))] := hl
  have hW0 : mWk I F I F := mWk.rf hI
  have hc0 := hI.hc
  refine lv_aload_n hx hb dX6_compare_0 rfl (lv_at hl 0 rfl) ?_
  refine lv_aload_n hx hb dX6_compare_1 rfl (lv_at hl 0 rfl) ?_
  refine lv_iload_n hx hb dX6_compare_2 rfl (lv_at hl 1 rfl) ?_
  refine mk_calli (As := [.int (iz p0)]) (rest := [.ref mo]) ⟨hx, hb, hml, hown, hts⟩ (k_isNone l dC dI mo ma cs I F p0 s.heap.size hI.hB (by omega) (by omega)) (cwV 1 hts (kx_gV kq_04_msmall_3 kq_04_msmall_4 kq_04_msmall_5 kq_04_msmall_6 kq_04_msmall_7 rfl) rfl rfl rfl (by decide +kernel) ⟨Nat.le_of_ble_eq_true rfl, Nat.le_of_ble_eq_true rfl⟩) hP hD hK hG hZ hS hA rfl hl.1 rfl (Nat.le_of_ble_eq_true rfl) dX6_compare_3 ⟨Nat.le_of_ble_eq_true rfl, Nat.le_of_ble_eq_true rfl⟩ (fun z_1 I_3 F_4 H locs hq_2 hP hD hS => ?_)
  try dsimp only at hq_2
  obtain ⟨rfl, rfl, hq_2⟩ := hq_2
  rcases hq_2 with ⟨rfl, hq_2⟩ | ⟨rfl, hq_2⟩
  · skip
    refine ki_if_ne (tgt := 17) hx hb dX6_compare_6 (by decide) (by omega) (by omega) (fun c_5 => ?_) (fun c_5 => ?_)
    · skip
      refine lv_iconst (v := iz 1) hx hb dX6_compare_17 (by decide) ?_
      refine lv_goto (tgt := 22) hx hb dX6_compare_18 (by decide) ?_
      refine lv_iconst (v := iz 0) hx hb dX6_compare_22 (by decide) ?_
      refine lv_iconst (v := iz 0) hx hb dX6_compare_23 (by decide) ?_
      refine mk_calli (As := [.int (iz 1), .int (iz 0), .int (iz 0)]) (rest := []) ⟨hx, hb, hml, hown, hts⟩ (k_refused1 l dC dI mo ma cs I F 0 0 H.size (by omega) (by omega) (by omega) (by omega)) (cwV 3 hts (kx_gV kq_04_msmall_8 kq_04_msmall_9 kq_04_msmall_10 kq_04_msmall_6 kq_04_msmall_11 rfl) rfl rfl rfl (by decide +kernel) ⟨Nat.le_of_ble_eq_true rfl, Nat.le_of_ble_eq_true rfl⟩) hP hD hK hG hZ hS hA rfl hl.1 rfl (Nat.le_of_ble_eq_true rfl) dX6_compare_24 ⟨Nat.le_of_ble_eq_true rfl, Nat.le_of_ble_eq_true rfl⟩ (fun z_6 I_8 F_9 H locs hq_7 hP hD hS => ?_)
      try dsimp only at hq_7
      obtain ⟨rfl, rfl, rfl⟩ := hq_7
      refine ki_if_eq (tgt := 34) hx hb dX6_compare_27 (by decide) (by omega) (by omega) (fun c_10 => ?_) (fun c_10 => ?_)
      · omega
      · skip
        refine lv_iconst (v := iz 0) hx hb dX6_compare_30 (by decide) ?_
        refine lv_goto (tgt := 40) hx hb dX6_compare_31 (by decide) ?_
        have hk11 : mWk _ _ (va_up I 0 1) F ∧ _ := mWk.thr hI (v := 1) (by omega)
        have hI11 : mIv (va_up I 0 1) F := hI.go hk11.1
        have hw11 : mWk _ _ (va_up I 0 1) F := hW0.tr hk11.1
        have e1611 : (va_up I 0 1) 16 = _ := hk11.2.1
        have e1911 : (va_up I 0 1) 19 = _ := hk11.2.2
        have e111 : (va_up I 0 1) 1 = _ := hk11.1.2.1.1 1 (by decide)
        exact mk_ireti hx hb hr hlocks hP hD hK hS dX6_compare_40 hw11
    · omega
  · skip
    refine ki_if_ne (tgt := 17) hx hb dX6_compare_6 (by decide) (by omega) (by omega) (fun c_12 => ?_) (fun c_12 => ?_)
    · omega
    · skip
      refine lv_aload_n hx hb dX6_compare_9 rfl (lv_at hl 0 rfl) ?_
      refine lv_iload_n hx hb dX6_compare_10 rfl (lv_at hl 2 rfl) ?_
      refine mk_calli (As := [.int (iz p1)]) (rest := [.ref mo]) ⟨hx, hb, hml, hown, hts⟩ (k_isNone l dC dI mo ma cs I F p1 H.size hI.hB (by omega) (by omega)) (cwV 1 hts (kx_gV kq_04_msmall_3 kq_04_msmall_4 kq_04_msmall_5 kq_04_msmall_6 kq_04_msmall_7 rfl) rfl rfl rfl (by decide +kernel) ⟨Nat.le_of_ble_eq_true rfl, Nat.le_of_ble_eq_true rfl⟩) hP hD hK hG hZ hS hA rfl hl.1 rfl (Nat.le_of_ble_eq_true rfl) dX6_compare_11 ⟨Nat.le_of_ble_eq_true rfl, Nat.le_of_ble_eq_true rfl⟩ (fun z_13 I_15 F_16 H locs hq_14 hP hD hS => ?_)
      try dsimp only at hq_14
      obtain ⟨rfl, rfl, hq_14⟩ := hq_14
      rcases hq_14 with ⟨rfl, hq_14⟩ | ⟨rfl, hq_14⟩
      · skip
        refine ki_if_eq (tgt := 21) hx hb dX6_compare_14 (by decide) (by omega) (by omega) (fun c_17 => ?_) (fun c_17 => ?_)
        · omega
        · skip
          refine lv_iconst (v := iz 1) hx hb dX6_compare_17 (by decide) ?_
          refine lv_goto (tgt := 22) hx hb dX6_compare_18 (by decide) ?_
          refine lv_iconst (v := iz 0) hx hb dX6_compare_22 (by decide) ?_
          refine lv_iconst (v := iz 0) hx hb dX6_compare_23 (by decide) ?_
          refine mk_calli (As := [.int (iz 1), .int (iz 0), .int (iz 0)]) (rest := []) ⟨hx, hb, hml, hown, hts⟩ (k_refused1 l dC dI mo ma cs I F 0 0 H.size (by omega) (by omega) (by omega) (by omega)) (cwV 3 hts (kx_gV kq_04_msmall_8 kq_04_msmall_9 kq_04_msmall_10 kq_04_msmall_6 kq_04_msmall_11 rfl) rfl rfl rfl (by decide +kernel) ⟨Nat.le_of_ble_eq_true rfl, Nat.le_of_ble_eq_true rfl⟩) hP hD hK hG hZ hS hA rfl hl.1 rfl (Nat.le_of_ble_eq_true rfl) dX6_compare_24 ⟨Nat.le_of_ble_eq_true rfl, Nat.le_of_ble_eq_true rfl⟩ (fun z_18 I_20 F_21 H locs hq_19 hP hD hS => ?_)
          try dsimp only at hq_19
          obtain ⟨rfl, rfl, rfl⟩ := hq_19
          refine ki_if_eq (tgt := 34) hx hb dX6_compare_27 (by decide) (by omega) (by omega) (fun c_22 => ?_) (fun c_22 => ?_)
          · omega
          · skip
            refine lv_iconst (v := iz 0) hx hb dX6_compare_30 (by decide) ?_
            refine lv_goto (tgt := 40) hx hb dX6_compare_31 (by decide) ?_
            have hk23 : mWk _ _ (va_up I 0 1) F ∧ _ := mWk.thr hI (v := 1) (by omega)
            have hI23 : mIv (va_up I 0 1) F := hI.go hk23.1
            have hw23 : mWk _ _ (va_up I 0 1) F := hW0.tr hk23.1
            have e1623 : (va_up I 0 1) 16 = _ := hk23.2.1
            have e1923 : (va_up I 0 1) 19 = _ := hk23.2.2
            have e123 : (va_up I 0 1) 1 = _ := hk23.1.2.1.1 1 (by decide)
            exact mk_ireti hx hb hr hlocks hP hD hK hS dX6_compare_40 hw23
      · skip
        refine ki_if_eq (tgt := 21) hx hb dX6_compare_14 (by decide) (by omega) (by omega) (fun c_24 => ?_) (fun c_24 => ?_)
        · skip
          refine lv_iconst (v := iz 0) hx hb dX6_compare_21 (by decide) ?_
          refine lv_iconst (v := iz 0) hx hb dX6_compare_22 (by decide) ?_
          refine lv_iconst (v := iz 0) hx hb dX6_compare_23 (by decide) ?_
          refine mk_calli (As := [.int (iz 0), .int (iz 0), .int (iz 0)]) (rest := []) ⟨hx, hb, hml, hown, hts⟩ (k_refused0 l dC dI mo ma cs I F  H.size ) (cwV 3 hts (kx_gV kq_04_msmall_8 kq_04_msmall_9 kq_04_msmall_10 kq_04_msmall_6 kq_04_msmall_11 rfl) rfl rfl rfl (by decide +kernel) ⟨Nat.le_of_ble_eq_true rfl, Nat.le_of_ble_eq_true rfl⟩) hP hD hK hG hZ hS hA rfl hl.1 rfl (Nat.le_of_ble_eq_true rfl) dX6_compare_24 ⟨Nat.le_of_ble_eq_true rfl, Nat.le_of_ble_eq_true rfl⟩ (fun z_25 I_27 F_28 H locs hq_26 hP hD hS => ?_)
          try dsimp only at hq_26
          obtain ⟨rfl, rfl, rfl⟩ := hq_26
          refine ki_if_eq (tgt := 34) hx hb dX6_compare_27 (by decide) (by omega) (by omega) (fun c_29 => ?_) (fun c_29 => ?_)
          · skip
            refine lv_aload_n hx hb dX6_compare_34 rfl (lv_at hl 0 rfl) ?_
            refine lv_iload_n hx hb dX6_compare_35 rfl (lv_at hl 1 rfl) ?_
            refine lv_iload_n hx hb dX6_compare_36 rfl (lv_at hl 2 rfl) ?_
            have hk30 : mWk _ _ (va_up I 0 0) F ∧ _ := mWk.thr hI (v := 0) (by omega)
            have hI30 : mIv (va_up I 0 0) F := hI.go hk30.1
            have hw30 : mWk _ _ (va_up I 0 0) F := hW0.tr hk30.1
            have e1630 : (va_up I 0 0) 16 = _ := hk30.2.1
            have e1930 : (va_up I 0 0) 19 = _ := hk30.2.2
            have e130 : (va_up I 0 0) 1 = _ := hk30.1.2.1.1 1 (by decide)
            refine mk_calli (As := [.int (iz p0), .int (iz p1)]) (rest := []) ⟨hx, hb, hml, hown, hts⟩ (k_orderOf l dC dI mo ma cs (va_up I 0 0) F p0 p1 H.size hI30.hB (by omega) (by omega) hI30.hn) (cwV 2 hts (kx_gV kq_06_mway_20 kq_06_mway_21 kq_06_mway_22 kq_04_msmall_6 kq_06_mway_23 rfl) rfl rfl rfl (by decide +kernel) ⟨Nat.le_of_ble_eq_true rfl, Nat.le_of_ble_eq_true rfl⟩) hP hD hK hG hZ hS hA rfl hl.1 rfl (Nat.le_of_ble_eq_true rfl) dX6_compare_37 ⟨Nat.le_of_ble_eq_true rfl, Nat.le_of_ble_eq_true rfl⟩ (fun z_31 I_33 F_34 H locs hq_32 hP hD hS => ?_)
            try dsimp only at hq_32
            have hk35 : mWk (va_up I 0 0) F I_33 F_34 ∧ _ := mWk.scr hI30 hq_32.1 hq_32.2.1 hq_32.2.2.1
            have hI35 : mIv I_33 F_34 := hI30.go hk35.1
            have hw35 : mWk _ _ I_33 F_34 := hw30.tr hk35.1
            have e1635 := hk35.2.1
            have e1935 := hk35.2.2
            have hc35 := hI35.hc
            have hx35a := hk35.1.2.1.1 1 (by decide)
            have hrg_36 := hq_32.2.2.2
            exact mk_ireti hx hb hr hlocks hP hD hK hS dX6_compare_40 hw35
          · omega
        · omega
set_option maxHeartbeats 4000000 in
set_option maxRecDepth 100000 in
theorem k_told (l : Launch) (dC : Nat → ClassId) (dI : Nat → Nat → Nat) (mo : Nat) (ma : Nat → Nat) (cs : Nat → ClassId) (I : Nat → Int) (F : Nat → Int → Int) (p0 : Int) (p1 : Int) (sz : Nat) (hI : mIv I F) (hp01 : -2147483648 ≤ p0) (hp02 : p0 < 2147483648) (hp11 : -2147483648 ≤ p1) (hp12 : p1 < 2147483648) : mMi l yX6_told (.code yX6_told cX6_told 10 (some .int)) 5 120 dC dI mo ma cs I F [.ref mo, .int (iz p0), .int (iz p1)] sz (fun (r : Int) (I' : Nat → Int) (F' : Nat → Int → Int) => mWk I F I' F') := by
  refine Met.ofW (cc := cX6_told) (maxL := 10) (ret := (some .int)) (by decide) rfl ?_
  intro p e s m args below meth c s₁ B hml hv
  obtain ⟨rfl, hsz, hP, hK, hD0, hG, hZ⟩ := hv
  have hx := B.exec
  have hb := B.bytes
  have hr := B.returns
  have hts := kx_hts (a := ([.ref mo, .int (iz p0), .int (iz p1)] : List Value).toArray) hG
  have hown : s.vm.findClass RX6 = some m.cls := findClass_of_methodNamed B.named
  have hlocks := B.notSynchronized
  subst hsz
  have hD := hD0.self (sz := s.heap.size)
  generalize hAe : va_A (mW mo ma cs I F) s.heap.size = A at hD hZ ⊢
  have hA : ∀ q : Nat, s.heap.size ≤ q → A q := fun q h => by rw [← hAe]; exact Or.inr h
  have hS : va_S A s.heap s.heap [] := va_S.rf
  have hl := lv_entry ([.ref mo, .int (iz p0), .int (iz p1)]) (n := 10) (Nat.le_of_ble_eq_true rfl)
  rw [lg_entry_eq]
  generalize (lg_sl ([.ref mo, .int (iz p0), .int (iz p1)]) ++ List.replicate (10 - (lg_sl ([.ref mo, .int (iz p0), .int (iz p1)])).length) Slot.unset).toArray = ls at hl ⊢
  have hl : lv_has ls 10 [(0, .ref mo), (1, .int (iz p0)), (2, .int (iz p1))] := hl
  generalize hQe : MQ below (mQi dC dI mo ma cs A (fun (r : Int) (I' : Nat → Int) (F' : Nat → Int → Int) => mWk I F I' F')) ([.ref mo, .int (iz p0), .int (iz p1)] : List Value).toArray s 0 0 A = QQ
  have hW0 : mWk I F I F := mWk.rf hI
  have hc0 := hI.hc
  refine lv_aload_n hx hb dX6_told_0 rfl (lv_at hl 0 rfl) ?_
  refine mk_callv (As := []) (rest := []) ⟨hx, hb, hml, hown, hts⟩ (k_look l dC dI mo ma cs I F  s.heap.size hI.hB hI.hc hI.hn hI.hlv hI.hkn hI.hk01) (cwV 0 hts (kx_gV kq_11_mask_0 kq_11_mask_1 kq_11_mask_2 kq_04_msmall_6 kq_11_mask_3 rfl) rfl rfl rfl (by decide +kernel) ⟨Nat.le_of_ble_eq_true rfl, Nat.le_of_ble_eq_true rfl⟩) hP hD hK hG hZ hS hA rfl hl.1 rfl (Nat.le_of_ble_eq_true rfl) dX6_told_1 ⟨Nat.le_of_ble_eq_true rfl, Nat.le_of_ble_eq_true rfl⟩ (fun I_3 F_4 H locs hq_2 hP hD hS => ?_)
  try dsimp only at hq_2
  have hk5 : mWk I F I_3 F_4 := mWk.look hI hq_2
  have hI5 : mIv I_3 F_4 := hI.go hk5
  have hw5 : mWk _ _ I_3 F_4 := hW0.tr hk5
  have e165 : I_3 16 = 1 := hq_2.2.2.1
  have hc5 := hI5.hc
  obtain ⟨hsmL, hszL, hrwL⟩ := hI5.hkn (by omega)
  refine lv_iconst (v := iz 0) hx hb dX6_told_4 (by decide) ?_
  refine lv_istore_n (lv' := [(3, .int (iz 0)), (0, .ref mo), (1, .int (iz p0)), (2, .int (iz p1))]) hx hb dX6_told_5 rfl hl (by decide) rfl (fun ls hl => ?_)
  refine lv_iconst (v := iz 0) hx hb dX6_told_6 (by decide) ?_
  refine lv_istore (lv' := [(4, .int (iz 0)), (3, .int (iz 0)), (0, .ref mo), (1, .int (iz p0)), (2, .int (iz p1))]) hx hb dX6_told_7 hl (by decide) rfl (fun ls hl => ?_)
  refine lv_iconst (v := iz 0) hx hb dX6_told_9 (by decide) ?_
  refine lv_istore (lv' := [(5, .int (iz 0)), (4, .int (iz 0)), (3, .int (iz 0)), (0, .ref mo), (1, .int (iz p0)), (2, .int (iz p1))]) hx hb dX6_told_10 hl (by decide) rfl (fun ls hl => ?_)
  refine lv_iconst (v := iz 0) hx hb dX6_told_12 (by decide) ?_
  refine lv_istore (lv' := [(6, .int (iz 0)), (5, .int (iz 0)), (4, .int (iz 0)), (3, .int (iz 0)), (0, .ref mo), (1, .int (iz p0)), (2, .int (iz p1))]) hx hb dX6_told_13 hl (by decide) rfl (fun ls hl => ?_)
  refine lv_iconst (v := iz 0) hx hb dX6_told_15 (by decide) ?_
  refine lv_istore (lv' := [(7, .int (iz 0)), (6, .int (iz 0)), (5, .int (iz 0)), (4, .int (iz 0)), (3, .int (iz 0)), (0, .ref mo), (1, .int (iz p0)), (2, .int (iz p1))]) hx hb dX6_told_16 hl (by decide) rfl (fun ls hl => ?_)
  have lp18 : ∀ (n : Nat) (nv kd av mv ev : Int), ((0 ≤ nv ∧ nv ≤ 7 * ev) ∧ (0 ≤ kd ∧ kd ≤ 3) ∧ (-2147483648 ≤ av ∧ av < 2147483648) ∧ (-2147483648 ≤ mv ∧ mv < 2147483648) ∧ (0 ≤ ev ∧ ev ≤ 64)) → (I_3 1 - ev).toNat < n → ∀ (H : Heap) (locs : List Loc), va_P (dC, dI) kxCl (mW mo ma cs I_3 F_4) H → va_D A (mW mo ma cs I_3 F_4) → va_S A s.heap H locs → ∀ ls : Array Slot, lv_has ls 10 [(7, .int (iz ev)), (6, .int (iz mv)), (5, .int (iz av)), (4, .int (iz kd)), (3, .int (iz nv)), (0, .ref mo), (1, .int (iz p0)), (2, .int (iz p1))] → W p l e (headSpec [.code yX6_told cX6_told 10 (some .int)] ({ frames := 5, cells := 0, slots := 0, locals := 120 })).room s m ([.ref mo, .int (iz p0), .int (iz p1)] : List Value).toArray below meth c H locs 0 0 QQ (F0 m 18 ls []) := by
    intro n
    induction n with
    | zero => intro nv kd av mv ev hinv hm; exact absurd hm (Nat.not_lt_zero _)
    | succ n ih18 =>
      intro nv kd av mv ev hinv hm H locs hP hD hS ls hl
      obtain ⟨hnv, hkd, hav, hmv, hev⟩ := hinv
      refine lv_iload hx hb dX6_told_18 (lv_at hl 0 rfl) ?_
      refine lv_aload_n hx hb dX6_told_20 rfl (lv_at hl 5 rfl) ?_
      refine va_get (D := (dC, dI)) (ci := 6) (v := .int (iz (I_3 1))) (C := RX6) (T := TX6) (N := 44) hx hb hts kt_X6 hown hK hP 0 rfl rfl 1 (by decide) (kx_word hG kq_04_msmall_1 rfl) (fun _ h9 => h9) rfl dX6_told_21 ?_
      have hbd_6 := hI5.hB.1 1
      refine ki_icmp_ge (tgt := 224) hx hb dX6_told_24 (by decide) (by omega) (by omega) (by omega) (by omega) (fun c_7 => ?_) (fun c_7 => ?_)
      · skip
        refine lv_aload_n hx hb dX6_told_224 rfl (lv_at hl 5 rfl) ?_
        refine lv_iload_n hx hb dX6_told_225 rfl (lv_at hl 6 rfl) ?_
        refine lv_iconst (v := iz (-1)) hx hb dX6_told_226 (by decide) ?_
        refine ki_icmp_eq (tgt := 248) hx hb dX6_told_227 (by decide) (by omega) (by omega) (by omega) (by omega) (fun c_8 => ?_) (fun c_8 => ?_)
        · skip
          refine lv_iconst (v := iz 0) hx hb dX6_told_248 (by decide) ?_
          refine lv_iconst (v := iz 0) hx hb dX6_told_249 (by decide) ?_
          refine lv_iconst (v := iz 0) hx hb dX6_told_250 (by decide) ?_
          refine mk_calli (As := [.int (iz 0), .int (iz 0), .int (iz 0)]) (rest := []) ⟨hx, hb, hml, hown, hts⟩ (k_refused0 l dC dI mo ma cs I_3 F_4  H.size ) (cwV 3 hts (kx_gV kq_04_msmall_8 kq_04_msmall_9 kq_04_msmall_10 kq_04_msmall_6 kq_04_msmall_11 rfl) rfl rfl rfl (by decide +kernel) ⟨Nat.le_of_ble_eq_true rfl, Nat.le_of_ble_eq_true rfl⟩) hP hD hK hG hZ hS hA rfl hl.1 rfl (Nat.le_of_ble_eq_true rfl) dX6_told_251 ⟨Nat.le_of_ble_eq_true rfl, Nat.le_of_ble_eq_true rfl⟩ (fun z_9 I_11 F_12 H locs hq_10 hP hD hS => ?_)
          try dsimp only at hq_10
          obtain ⟨rfl, rfl, rfl⟩ := hq_10
          refine ki_if_eq (tgt := 259) hx hb dX6_told_254 (by decide) (by omega) (by omega) (fun c_13 => ?_) (fun c_13 => ?_)
          · skip
            refine lv_iload_n hx hb dX6_told_259 rfl (lv_at hl 6 rfl) ?_
            refine lv_iconst (v := iz (-1)) hx hb dX6_told_260 (by decide) ?_
            refine ki_icmp_ne (tgt := 268) hx hb dX6_told_261 (by decide) (by omega) (by omega) (by omega) (by omega) (fun c_14 => ?_) (fun c_14 => ?_)
            · omega
            · skip
              refine lv_iload_n hx hb dX6_told_264 rfl (lv_at hl 4 rfl) ?_
              refine lv_goto (tgt := 289) hx hb dX6_told_265 (by decide) ?_
              have hk15 : mWk _ _ (va_up I_3 0 0) F_4 ∧ _ := mWk.thr hI5 (v := 0) (by omega)
              have hI15 : mIv (va_up I_3 0 0) F_4 := hI5.go hk15.1
              have hw15 : mWk _ _ (va_up I_3 0 0) F_4 := hw5.tr hk15.1
              have e1615 : (va_up I_3 0 0) 16 = _ := hk15.2.1
              have e1915 : (va_up I_3 0 0) 19 = _ := hk15.2.2
              have e115 : (va_up I_3 0 0) 1 = _ := hk15.1.2.1.1 1 (by decide)
              rw [← hQe]
              exact mk_ireti hx hb hr hlocks hP hD hK hS dX6_told_289 hw15
          · omega
        · skip
          refine lv_iload hx hb dX6_told_230 (lv_at hl 3 rfl) ?_
          refine ki_if_eq (tgt := 244) hx hb dX6_told_232 (by decide) (by omega) (by omega) (fun c_16 => ?_) (fun c_16 => ?_)
          · skip
            refine lv_iconst (v := iz 1) hx hb dX6_told_244 (by decide) ?_
            refine lv_goto (tgt := 249) hx hb dX6_told_245 (by decide) ?_
            refine lv_iconst (v := iz 0) hx hb dX6_told_249 (by decide) ?_
            refine lv_iconst (v := iz 0) hx hb dX6_told_250 (by decide) ?_
            refine mk_calli (As := [.int (iz 1), .int (iz 0), .int (iz 0)]) (rest := []) ⟨hx, hb, hml, hown, hts⟩ (k_refused1 l dC dI mo ma cs I_3 F_4 0 0 H.size (by omega) (by omega) (by omega) (by omega)) (cwV 3 hts (kx_gV kq_04_msmall_8 kq_04_msmall_9 kq_04_msmall_10 kq_04_msmall_6 kq_04_msmall_11 rfl) rfl rfl rfl (by decide +kernel) ⟨Nat.le_of_ble_eq_true rfl, Nat.le_of_ble_eq_true rfl⟩) hP hD hK hG hZ hS hA rfl hl.1 rfl (Nat.le_of_ble_eq_true rfl) dX6_told_251 ⟨Nat.le_of_ble_eq_true rfl, Nat.le_of_ble_eq_true rfl⟩ (fun z_17 I_19 F_20 H locs hq_18 hP hD hS => ?_)
            try dsimp only at hq_18
            obtain ⟨rfl, rfl, rfl⟩ := hq_18
            refine ki_if_eq (tgt := 259) hx hb dX6_told_254 (by decide) (by omega) (by omega) (fun c_21 => ?_) (fun c_21 => ?_)
            · omega
            · skip
              refine lv_iconst (v := iz 0) hx hb dX6_told_257 (by decide) ?_
              have hk22 : mWk _ _ (va_up I_3 0 1) F_4 ∧ _ := mWk.thr hI5 (v := 1) (by omega)
              have hI22 : mIv (va_up I_3 0 1) F_4 := hI5.go hk22.1
              have hw22 : mWk _ _ (va_up I_3 0 1) F_4 := hw5.tr hk22.1
              have e1622 : (va_up I_3 0 1) 16 = _ := hk22.2.1
              have e1922 : (va_up I_3 0 1) 19 = _ := hk22.2.2
              have e122 : (va_up I_3 0 1) 1 = _ := hk22.1.2.1.1 1 (by decide)
              rw [← hQe]
              exact mk_ireti hx hb hr hlocks hP hD hK hS dX6_told_258 hw22
          · skip
            refine lv_iload_n hx hb dX6_told_235 rfl (lv_at hl 7 rfl) ?_
            refine ki_if_lt (tgt := 244) hx hb dX6_told_236 (by decide) (by omega) (by omega) (fun c_23 => ?_) (fun c_23 => ?_)
            · skip
              refine lv_iconst (v := iz 1) hx hb dX6_told_244 (by decide) ?_
              refine lv_goto (tgt := 249) hx hb dX6_told_245 (by decide) ?_
              refine lv_iconst (v := iz 0) hx hb dX6_told_249 (by decide) ?_
              refine lv_iconst (v := iz 0) hx hb dX6_told_250 (by decide) ?_
              refine mk_calli (As := [.int (iz 1), .int (iz 0), .int (iz 0)]) (rest := []) ⟨hx, hb, hml, hown, hts⟩ (k_refused1 l dC dI mo ma cs I_3 F_4 0 0 H.size (by omega) (by omega) (by omega) (by omega)) (cwV 3 hts (kx_gV kq_04_msmall_8 kq_04_msmall_9 kq_04_msmall_10 kq_04_msmall_6 kq_04_msmall_11 rfl) rfl rfl rfl (by decide +kernel) ⟨Nat.le_of_ble_eq_true rfl, Nat.le_of_ble_eq_true rfl⟩) hP hD hK hG hZ hS hA rfl hl.1 rfl (Nat.le_of_ble_eq_true rfl) dX6_told_251 ⟨Nat.le_of_ble_eq_true rfl, Nat.le_of_ble_eq_true rfl⟩ (fun z_24 I_26 F_27 H locs hq_25 hP hD hS => ?_)
              try dsimp only at hq_25
              obtain ⟨rfl, rfl, rfl⟩ := hq_25
              refine ki_if_eq (tgt := 259) hx hb dX6_told_254 (by decide) (by omega) (by omega) (fun c_28 => ?_) (fun c_28 => ?_)
              · omega
              · skip
                refine lv_iconst (v := iz 0) hx hb dX6_told_257 (by decide) ?_
                have hk29 : mWk _ _ (va_up I_3 0 1) F_4 ∧ _ := mWk.thr hI5 (v := 1) (by omega)
                have hI29 : mIv (va_up I_3 0 1) F_4 := hI5.go hk29.1
                have hw29 : mWk _ _ (va_up I_3 0 1) F_4 := hw5.tr hk29.1
                have e1629 : (va_up I_3 0 1) 16 = _ := hk29.2.1
                have e1929 : (va_up I_3 0 1) 19 = _ := hk29.2.2
                have e129 : (va_up I_3 0 1) 1 = _ := hk29.1.2.1.1 1 (by decide)
                rw [← hQe]
                exact mk_ireti hx hb hr hlocks hP hD hK hS dX6_told_258 hw29
            · skip
              refine lv_iload_n hx hb dX6_told_239 rfl (lv_at hl 7 rfl) ?_
              refine lv_iconst (v := iz 2) hx hb dX6_told_240 (by decide) ?_
              refine ki_icmp_le (tgt := 248) hx hb dX6_told_241 (by decide) (by omega) (by omega) (by omega) (by omega) (fun c_30 => ?_) (fun c_30 => ?_)
              · skip
                refine lv_iconst (v := iz 0) hx hb dX6_told_248 (by decide) ?_
                refine lv_iconst (v := iz 0) hx hb dX6_told_249 (by decide) ?_
                refine lv_iconst (v := iz 0) hx hb dX6_told_250 (by decide) ?_
                refine mk_calli (As := [.int (iz 0), .int (iz 0), .int (iz 0)]) (rest := []) ⟨hx, hb, hml, hown, hts⟩ (k_refused0 l dC dI mo ma cs I_3 F_4  H.size ) (cwV 3 hts (kx_gV kq_04_msmall_8 kq_04_msmall_9 kq_04_msmall_10 kq_04_msmall_6 kq_04_msmall_11 rfl) rfl rfl rfl (by decide +kernel) ⟨Nat.le_of_ble_eq_true rfl, Nat.le_of_ble_eq_true rfl⟩) hP hD hK hG hZ hS hA rfl hl.1 rfl (Nat.le_of_ble_eq_true rfl) dX6_told_251 ⟨Nat.le_of_ble_eq_true rfl, Nat.le_of_ble_eq_true rfl⟩ (fun z_31 I_33 F_34 H locs hq_32 hP hD hS => ?_)
                try dsimp only at hq_32
                obtain ⟨rfl, rfl, rfl⟩ := hq_32
                refine ki_if_eq (tgt := 259) hx hb dX6_told_254 (by decide) (by omega) (by omega) (fun c_35 => ?_) (fun c_35 => ?_)
                · skip
                  refine lv_iload_n hx hb dX6_told_259 rfl (lv_at hl 6 rfl) ?_
                  refine lv_iconst (v := iz (-1)) hx hb dX6_told_260 (by decide) ?_
                  refine ki_icmp_ne (tgt := 268) hx hb dX6_told_261 (by decide) (by omega) (by omega) (by omega) (by omega) (fun c_36 => ?_) (fun c_36 => ?_)
                  · skip
                    refine lv_iload_n hx hb dX6_told_268 rfl (lv_at hl 7 rfl) ?_
                    refine ki_if_ne (tgt := 277) hx hb dX6_told_269 (by decide) (by omega) (by omega) (fun c_37 => ?_) (fun c_37 => ?_)
                    · skip
                      refine lv_iload_n hx hb dX6_told_277 rfl (lv_at hl 7 rfl) ?_
                      refine lv_iconst (v := iz 1) hx hb dX6_told_278 (by decide) ?_
                      refine ki_icmp_ne (tgt := 287) hx hb dX6_told_279 (by decide) (by omega) (by omega) (by omega) (by omega) (fun c_38 => ?_) (fun c_38 => ?_)
                      · skip
                        refine lv_iload hx hb dX6_told_287 (lv_at hl 1 rfl) ?_
                        have hk39 : mWk _ _ (va_up I_3 0 0) F_4 ∧ _ := mWk.thr hI5 (v := 0) (by omega)
                        have hI39 : mIv (va_up I_3 0 0) F_4 := hI5.go hk39.1
                        have hw39 : mWk _ _ (va_up I_3 0 0) F_4 := hw5.tr hk39.1
                        have e1639 : (va_up I_3 0 0) 16 = _ := hk39.2.1
                        have e1939 : (va_up I_3 0 0) 19 = _ := hk39.2.2
                        have e139 : (va_up I_3 0 0) 1 = _ := hk39.1.2.1.1 1 (by decide)
                        rw [← hQe]
                        exact mk_ireti hx hb hr hlocks hP hD hK hS dX6_told_289 hw39
                      · skip
                        refine lv_iload hx hb dX6_told_282 (lv_at hl 2 rfl) ?_
                        refine lv_goto (tgt := 289) hx hb dX6_told_284 (by decide) ?_
                        have hk40 : mWk _ _ (va_up I_3 0 0) F_4 ∧ _ := mWk.thr hI5 (v := 0) (by omega)
                        have hI40 : mIv (va_up I_3 0 0) F_4 := hI5.go hk40.1
                        have hw40 : mWk _ _ (va_up I_3 0 0) F_4 := hw5.tr hk40.1
                        have e1640 : (va_up I_3 0 0) 16 = _ := hk40.2.1
                        have e1940 : (va_up I_3 0 0) 19 = _ := hk40.2.2
                        have e140 : (va_up I_3 0 0) 1 = _ := hk40.1.2.1.1 1 (by decide)
                        rw [← hQe]
                        exact mk_ireti hx hb hr hlocks hP hD hK hS dX6_told_289 hw40
                    · skip
                      refine lv_iload hx hb dX6_told_272 (lv_at hl 3 rfl) ?_
                      refine lv_goto (tgt := 289) hx hb dX6_told_274 (by decide) ?_
                      have hk41 : mWk _ _ (va_up I_3 0 0) F_4 ∧ _ := mWk.thr hI5 (v := 0) (by omega)
                      have hI41 : mIv (va_up I_3 0 0) F_4 := hI5.go hk41.1
                      have hw41 : mWk _ _ (va_up I_3 0 0) F_4 := hw5.tr hk41.1
                      have e1641 : (va_up I_3 0 0) 16 = _ := hk41.2.1
                      have e1941 : (va_up I_3 0 0) 19 = _ := hk41.2.2
                      have e141 : (va_up I_3 0 0) 1 = _ := hk41.1.2.1.1 1 (by decide)
                      rw [← hQe]
                      exact mk_ireti hx hb hr hlocks hP hD hK hS dX6_told_289 hw41
                  · omega
                · omega
              · skip
                refine lv_iconst (v := iz 1) hx hb dX6_told_244 (by decide) ?_
                refine lv_goto (tgt := 249) hx hb dX6_told_245 (by decide) ?_
                refine lv_iconst (v := iz 0) hx hb dX6_told_249 (by decide) ?_
                refine lv_iconst (v := iz 0) hx hb dX6_told_250 (by decide) ?_
                refine mk_calli (As := [.int (iz 1), .int (iz 0), .int (iz 0)]) (rest := []) ⟨hx, hb, hml, hown, hts⟩ (k_refused1 l dC dI mo ma cs I_3 F_4 0 0 H.size (by omega) (by omega) (by omega) (by omega)) (cwV 3 hts (kx_gV kq_04_msmall_8 kq_04_msmall_9 kq_04_msmall_10 kq_04_msmall_6 kq_04_msmall_11 rfl) rfl rfl rfl (by decide +kernel) ⟨Nat.le_of_ble_eq_true rfl, Nat.le_of_ble_eq_true rfl⟩) hP hD hK hG hZ hS hA rfl hl.1 rfl (Nat.le_of_ble_eq_true rfl) dX6_told_251 ⟨Nat.le_of_ble_eq_true rfl, Nat.le_of_ble_eq_true rfl⟩ (fun z_42 I_44 F_45 H locs hq_43 hP hD hS => ?_)
                try dsimp only at hq_43
                obtain ⟨rfl, rfl, rfl⟩ := hq_43
                refine ki_if_eq (tgt := 259) hx hb dX6_told_254 (by decide) (by omega) (by omega) (fun c_46 => ?_) (fun c_46 => ?_)
                · omega
                · skip
                  refine lv_iconst (v := iz 0) hx hb dX6_told_257 (by decide) ?_
                  have hk47 : mWk _ _ (va_up I_3 0 1) F_4 ∧ _ := mWk.thr hI5 (v := 1) (by omega)
                  have hI47 : mIv (va_up I_3 0 1) F_4 := hI5.go hk47.1
                  have hw47 : mWk _ _ (va_up I_3 0 1) F_4 := hw5.tr hk47.1
                  have e1647 : (va_up I_3 0 1) 16 = _ := hk47.2.1
                  have e1947 : (va_up I_3 0 1) 19 = _ := hk47.2.2
                  have e147 : (va_up I_3 0 1) 1 = _ := hk47.1.2.1.1 1 (by decide)
                  rw [← hQe]
                  exact mk_ireti hx hb hr hlocks hP hD hK hS dX6_told_258 hw47
      · skip
        have hmy9 := hI5.hmy ev
        refine lv_aload_n hx hb dX6_told_27 rfl (lv_at hl 5 rfl) ?_
        refine va_get (D := (dC, dI)) (ci := 6) (v := .ref (ma 11)) (C := RX6) (T := TX6) (N := 44) hx hb hts kt_X6 hown hK hP 0 rfl rfl 11 (by decide) (kx_word hG kq_04_msmall_21 rfl) (fun _ h9 => h9) rfl dX6_told_28 ?_
        refine lv_iload hx hb dX6_told_31 (lv_at hl 0 rfl) ?_
        refine ki_iald (F := F_4 11) hx hb hK hP 10 9 rfl rfl (by omega) (by omega) (by decide) dX6_told_33 ?_
        have hbd_48 := hI5.hB.2 11 ev
        refine ki_if_le (tgt := 86) hx hb dX6_told_34 (by decide) (by omega) (by omega) (fun c_49 => ?_) (fun c_49 => ?_)
        · skip
          refine lv_iconst (v := iz 0) hx hb dX6_told_86 (by decide) ?_
          refine lv_istore (lv' := [(8, .int (iz 0)), (7, .int (iz ev)), (6, .int (iz mv)), (5, .int (iz av)), (4, .int (iz kd)), (3, .int (iz nv)), (0, .ref mo), (1, .int (iz p0)), (2, .int (iz p1))]) hx hb dX6_told_87 hl (by decide) rfl (fun ls hl => ?_)
          have lp89 : ∀ (n : Nat) (nw kw aw mw kv : Int), ((0 ≤ nw ∧ nw ≤ 7 * ev + 1 + kv) ∧ (0 ≤ kw ∧ kw ≤ 3) ∧ (-2147483648 ≤ aw ∧ aw < 2147483648) ∧ (-2147483648 ≤ mw ∧ mw < 2147483648) ∧ (0 ≤ kv ∧ kv ≤ 5)) → (F_4 13 ev - kv).toNat < n → ∀ (H : Heap) (locs : List Loc), va_P (dC, dI) kxCl (mW mo ma cs I_3 F_4) H → va_D A (mW mo ma cs I_3 F_4) → va_S A s.heap H locs → ∀ ls : Array Slot, lv_has ls 10 [(8, .int (iz kv)), (7, .int (iz ev)), (6, .int (iz mw)), (5, .int (iz aw)), (4, .int (iz kw)), (3, .int (iz nw)), (0, .ref mo), (1, .int (iz p0)), (2, .int (iz p1))] → W p l e (headSpec [.code yX6_told cX6_told 10 (some .int)] ({ frames := 5, cells := 0, slots := 0, locals := 120 })).room s m ([.ref mo, .int (iz p0), .int (iz p1)] : List Value).toArray below meth c H locs 0 0 QQ (F0 m 89 ls []) := by
            intro n
            induction n with
            | zero => intro nw kw aw mw kv hinv hm; exact absurd hm (Nat.not_lt_zero _)
            | succ n ih89 =>
              intro nw kw aw mw kv hinv hm H locs hP hD hS ls hl
              obtain ⟨hnw, hkw, haw, hmw, hkv⟩ := hinv
              refine lv_iload hx hb dX6_told_89 (lv_at hl 0 rfl) ?_
              refine lv_aload_n hx hb dX6_told_91 rfl (lv_at hl 6 rfl) ?_
              refine va_get (D := (dC, dI)) (ci := 6) (v := .ref (ma 13)) (C := RX6) (T := TX6) (N := 44) hx hb hts kt_X6 hown hK hP 0 rfl rfl 13 (by decide) (kx_word hG kq_04_msmall_38 rfl) (fun _ h9 => h9) rfl dX6_told_92 ?_
              refine lv_iload hx hb dX6_told_95 (lv_at hl 1 rfl) ?_
              refine ki_iald (F := F_4 13) hx hb hK hP 12 11 rfl rfl (by omega) (by omega) (by decide) dX6_told_97 ?_
              have hbd_50 := hI5.hB.2 13 ev
              refine ki_icmp_ge (tgt := 179) hx hb dX6_told_98 (by decide) (by omega) (by omega) (by omega) (by omega) (fun c_51 => ?_) (fun c_51 => ?_)
              · skip
                refine lv_aload_n hx hb dX6_told_179 rfl (lv_at hl 6 rfl) ?_
                refine lv_iload hx hb dX6_told_180 (lv_at hl 1 rfl) ?_
                refine mk_calli (As := [.int (iz ev)]) (rest := []) ⟨hx, hb, hml, hown, hts⟩ (k_isBare l dC dI mo ma cs I_3 F_4 ev H.size hI5.hB hI5.hc hI5.hln hI5.hlv (by omega)) (cwV 1 hts (kx_gV kq_11_mask_4 kq_11_mask_5 kq_11_mask_6 kq_04_msmall_6 kq_11_mask_7 rfl) rfl rfl rfl (by decide +kernel) ⟨Nat.le_of_ble_eq_true rfl, Nat.le_of_ble_eq_true rfl⟩) hP hD hK hG hZ hS hA rfl hl.1 rfl (Nat.le_of_ble_eq_true rfl) dX6_told_182 ⟨Nat.le_of_ble_eq_true rfl, Nat.le_of_ble_eq_true rfl⟩ (fun z_52 I_54 F_55 H locs hq_53 hP hD hS => ?_)
                try dsimp only at hq_53
                obtain ⟨rfl, rfl, hq_53⟩ := hq_53
                refine ki_if_eq (tgt := 218) hx hb dX6_told_185 (by decide) (by omega) (by omega) (fun c_56 => ?_) (fun c_56 => ?_)
                · skip
                  refine lv_iinc (v := iz (ev + 1)) (lv' := [(7, .int (iz (ev + 1))), (8, .int (iz kv)), (6, .int (iz mw)), (5, .int (iz aw)), (4, .int (iz kw)), (3, .int (iz nw)), (0, .ref mo), (1, .int (iz p0)), (2, .int (iz p1))]) hx hb dX6_told_218 hl (k := 1) rfl (iz_add ev 1) (by decide) rfl (fun ls hl => ?_)
                  refine lv_goto (tgt := 18) hx hb dX6_told_221 (by decide) ?_
                  exact ih18 nw kw aw mw (ev + 1) ⟨by omega, by omega, by omega, by omega, by omega⟩ (by omega) _ _ hP hD hS ls (lv_sub hl [0, 2, 3, 4, 5, 6, 7, 8] rfl)
                · skip
                  refine lv_iload_n hx hb dX6_told_188 rfl (lv_at hl 5 rfl) ?_
                  refine lv_iload_n hx hb dX6_told_189 rfl (lv_at hl 7 rfl) ?_
                  refine ki_icmp_ne (tgt := 197) hx hb dX6_told_190 (by decide) (by omega) (by omega) (by omega) (by omega) (fun c_57 => ?_) (fun c_57 => ?_)
                  · skip
                    refine lv_iload hx hb dX6_told_197 (lv_at hl 4 rfl) ?_
                    refine lv_istore (lv' := [(4, .int (iz kw)), (8, .int (iz kv)), (7, .int (iz ev)), (6, .int (iz mw)), (5, .int (iz aw)), (3, .int (iz nw)), (0, .ref mo), (1, .int (iz p0)), (2, .int (iz p1))]) hx hb dX6_told_199 hl (by decide) rfl (fun ls hl => ?_)
                    refine lv_iload_n hx hb dX6_told_201 rfl (lv_at hl 5 rfl) ?_
                    refine lv_iload_n hx hb dX6_told_202 rfl (lv_at hl 7 rfl) ?_
                    refine ki_icmp_ne (tgt := 211) hx hb dX6_told_203 (by decide) (by omega) (by omega) (by omega) (by omega) (fun c_58 => ?_) (fun c_58 => ?_)
                    · skip
                      refine lv_iload hx hb dX6_told_211 (lv_at hl 4 rfl) ?_
                      refine lv_istore (lv' := [(5, .int (iz aw)), (4, .int (iz kw)), (8, .int (iz kv)), (7, .int (iz ev)), (6, .int (iz mw)), (3, .int (iz nw)), (0, .ref mo), (1, .int (iz p0)), (2, .int (iz p1))]) hx hb dX6_told_213 hl (by decide) rfl (fun ls hl => ?_)
                      refine lv_iinc (v := iz (nw + 1)) (lv' := [(3, .int (iz (nw + 1))), (5, .int (iz aw)), (4, .int (iz kw)), (8, .int (iz kv)), (7, .int (iz ev)), (6, .int (iz mw)), (0, .ref mo), (1, .int (iz p0)), (2, .int (iz p1))]) hx hb dX6_told_215 hl (k := 5) rfl (iz_add nw 1) (by decide) rfl (fun ls hl => ?_)
                      refine lv_iinc (v := iz (ev + 1)) (lv' := [(7, .int (iz (ev + 1))), (3, .int (iz (nw + 1))), (5, .int (iz aw)), (4, .int (iz kw)), (8, .int (iz kv)), (6, .int (iz mw)), (0, .ref mo), (1, .int (iz p0)), (2, .int (iz p1))]) hx hb dX6_told_218 hl (k := 4) rfl (iz_add ev 1) (by decide) rfl (fun ls hl => ?_)
                      refine lv_goto (tgt := 18) hx hb dX6_told_221 (by decide) ?_
                      exact ih18 (nw + 1) kw aw mw (ev + 1) ⟨by omega, by omega, by omega, by omega, by omega⟩ (by omega) _ _ hP hD hS ls (lv_sub hl [0, 5, 2, 3, 1, 6, 7, 8] rfl)
                    · omega
                  · skip
                    refine lv_iconst (v := iz 3) hx hb dX6_told_193 (by decide) ?_
                    refine lv_goto (tgt := 199) hx hb dX6_told_194 (by decide) ?_
                    refine lv_istore (lv' := [(4, .int (iz 3)), (8, .int (iz kv)), (7, .int (iz ev)), (6, .int (iz mw)), (5, .int (iz aw)), (3, .int (iz nw)), (0, .ref mo), (1, .int (iz p0)), (2, .int (iz p1))]) hx hb dX6_told_199 hl (by decide) rfl (fun ls hl => ?_)
                    refine lv_iload_n hx hb dX6_told_201 rfl (lv_at hl 5 rfl) ?_
                    refine lv_iload_n hx hb dX6_told_202 rfl (lv_at hl 7 rfl) ?_
                    refine ki_icmp_ne (tgt := 211) hx hb dX6_told_203 (by decide) (by omega) (by omega) (by omega) (by omega) (fun c_59 => ?_) (fun c_59 => ?_)
                    · omega
                    · skip
                      refine lv_iload hx hb dX6_told_206 (lv_at hl 2 rfl) ?_
                      refine lv_goto (tgt := 213) hx hb dX6_told_208 (by decide) ?_
                      refine lv_istore (lv' := [(5, .int (iz ev)), (4, .int (iz 3)), (8, .int (iz kv)), (7, .int (iz ev)), (6, .int (iz mw)), (3, .int (iz nw)), (0, .ref mo), (1, .int (iz p0)), (2, .int (iz p1))]) hx hb dX6_told_213 hl (by decide) rfl (fun ls hl => ?_)
                      refine lv_iinc (v := iz (nw + 1)) (lv' := [(3, .int (iz (nw + 1))), (5, .int (iz ev)), (4, .int (iz 3)), (8, .int (iz kv)), (7, .int (iz ev)), (6, .int (iz mw)), (0, .ref mo), (1, .int (iz p0)), (2, .int (iz p1))]) hx hb dX6_told_215 hl (k := 5) rfl (iz_add nw 1) (by decide) rfl (fun ls hl => ?_)
                      refine lv_iinc (v := iz (ev + 1)) (lv' := [(7, .int (iz (ev + 1))), (3, .int (iz (nw + 1))), (5, .int (iz ev)), (4, .int (iz 3)), (8, .int (iz kv)), (6, .int (iz mw)), (0, .ref mo), (1, .int (iz p0)), (2, .int (iz p1))]) hx hb dX6_told_218 hl (k := 4) rfl (iz_add ev 1) (by decide) rfl (fun ls hl => ?_)
                      refine lv_goto (tgt := 18) hx hb dX6_told_221 (by decide) ?_
                      exact ih18 (nw + 1) 3 ev mw (ev + 1) ⟨by omega, by omega, by omega, by omega, by omega⟩ (by omega) _ _ hP hD hS ls (lv_sub hl [0, 5, 2, 3, 1, 6, 7, 8] rfl)
              · skip
                have hse9 := hI5.hse ev kv (by omega) (by omega) (by omega) (by omega)
                refine lv_aload_n hx hb dX6_told_101 rfl (lv_at hl 6 rfl) ?_
                refine va_get (D := (dC, dI)) (ci := 6) (v := .ref (ma 12)) (C := RX6) (T := TX6) (N := 44) hx hb hts kt_X6 hown hK hP 0 rfl rfl 12 (by decide) (kx_word hG kq_04_msmall_39 rfl) (fun _ h9 => h9) rfl dX6_told_102 ?_
                refine lv_iconst (v := iz 5) hx hb dX6_told_105 (by decide) ?_
                refine lv_iload hx hb dX6_told_106 (lv_at hl 1 rfl) ?_
                refine ki_imul hx hb dX6_told_108 ?_
                refine lv_iload hx hb dX6_told_109 (lv_at hl 0 rfl) ?_
                refine ki_iadd hx hb dX6_told_111 ?_
                refine ki_iald (F := F_4 12) hx hb hK hP 11 10 rfl rfl (by omega) (by omega) (by decide) dX6_told_112 ?_
                have hbd_60 := hI5.hB.2 12 ((5 * ev) + kv)
                refine lv_istore (lv' := [(9, .int (iz (F_4 12 ((5 * ev) + kv)))), (8, .int (iz kv)), (7, .int (iz ev)), (6, .int (iz mw)), (5, .int (iz aw)), (4, .int (iz kw)), (3, .int (iz nw)), (0, .ref mo), (1, .int (iz p0)), (2, .int (iz p1))]) hx hb dX6_told_113 hl (by decide) rfl (fun ls hl => ?_)
                refine lv_aload_n hx hb dX6_told_115 rfl (lv_at hl 7 rfl) ?_
                refine lv_aload_n hx hb dX6_told_116 rfl (lv_at hl 7 rfl) ?_
                refine va_get (D := (dC, dI)) (ci := 6) (v := .ref (ma 17)) (C := RX6) (T := TX6) (N := 44) hx hb hts kt_X6 hown hK hP 0 rfl rfl 17 (by decide) (kx_word hG kq_06_mway_15 rfl) (fun _ h9 => h9) rfl dX6_told_117 ?_
                have hsm9 := hsmL (F_4 12 ((5 * ev) + kv)) (by omega) (by omega)
                refine lv_iload hx hb dX6_told_120 (lv_at hl 0 rfl) ?_
                refine ki_iald (F := F_4 17) hx hb hK hP 13 12 rfl rfl (by omega) (by omega) (by decide) dX6_told_122 ?_
                have hbd_61 := hI5.hB.2 17 (F_4 12 ((5 * ev) + kv))
                refine mk_calli (As := [.int (iz (F_4 17 (F_4 12 ((5 * ev) + kv))))]) (rest := []) ⟨hx, hb, hml, hown, hts⟩ (k_hasPage l dC dI mo ma cs I_3 F_4 (F_4 17 (F_4 12 ((5 * ev) + kv))) H.size hI5.hB hI5.hc hI5.hln (by omega) (by omega)) (cwV 1 hts (kx_gV kq_08_mgather_9 kq_08_mgather_10 kq_08_mgather_11 kq_04_msmall_6 kq_08_mgather_12 rfl) rfl rfl rfl (by decide +kernel) ⟨Nat.le_of_ble_eq_true rfl, Nat.le_of_ble_eq_true rfl⟩) hP hD hK hG hZ hS hA rfl hl.1 rfl (Nat.le_of_ble_eq_true rfl) dX6_told_123 ⟨Nat.le_of_ble_eq_true rfl, Nat.le_of_ble_eq_true rfl⟩ (fun z_62 I_64 F_65 H locs hq_63 hP hD hS => ?_)
                try dsimp only at hq_63
                obtain ⟨rfl, rfl, hq_63⟩ := hq_63
                refine ki_if_ne (tgt := 173) hx hb dX6_told_126 (by decide) (by omega) (by omega) (fun c_66 => ?_) (fun c_66 => ?_)
                · skip
                  refine lv_iinc (v := iz (kv + 1)) (lv' := [(8, .int (iz (kv + 1))), (9, .int (iz (F_4 12 ((5 * ev) + kv)))), (7, .int (iz ev)), (6, .int (iz mw)), (5, .int (iz aw)), (4, .int (iz kw)), (3, .int (iz nw)), (0, .ref mo), (1, .int (iz p0)), (2, .int (iz p1))]) hx hb dX6_told_173 hl (k := 1) rfl (iz_add kv 1) (by decide) rfl (fun ls hl => ?_)
                  refine lv_goto (tgt := 89) hx hb dX6_told_176 (by decide) ?_
                  exact ih89 nw kw aw mw (kv + 1) ⟨by omega, by omega, by omega, by omega, by omega⟩ (by omega) _ _ hP hD hS ls (lv_sub hl [0, 2, 3, 4, 5, 6, 7, 8, 9] rfl)
                · skip
                  refine lv_iload_n hx hb dX6_told_129 rfl (lv_at hl 6 rfl) ?_
                  refine lv_iload_n hx hb dX6_told_130 rfl (lv_at hl 8 rfl) ?_
                  refine ki_icmp_ne (tgt := 138) hx hb dX6_told_131 (by decide) (by omega) (by omega) (by omega) (by omega) (fun c_67 => ?_) (fun c_67 => ?_)
                  · skip
                    refine lv_iload hx hb dX6_told_138 (lv_at hl 5 rfl) ?_
                    refine lv_istore (lv' := [(4, .int (iz kw)), (9, .int (iz (F_4 12 ((5 * ev) + kv)))), (8, .int (iz kv)), (7, .int (iz ev)), (6, .int (iz mw)), (5, .int (iz aw)), (3, .int (iz nw)), (0, .ref mo), (1, .int (iz p0)), (2, .int (iz p1))]) hx hb dX6_told_140 hl (by decide) rfl (fun ls hl => ?_)
                    refine lv_iload_n hx hb dX6_told_142 rfl (lv_at hl 6 rfl) ?_
                    refine lv_iload_n hx hb dX6_told_143 rfl (lv_at hl 8 rfl) ?_
                    refine ki_icmp_ne (tgt := 152) hx hb dX6_told_144 (by decide) (by omega) (by omega) (by omega) (by omega) (fun c_68 => ?_) (fun c_68 => ?_)
                    · skip
                      refine lv_iload hx hb dX6_told_152 (lv_at hl 5 rfl) ?_
                      refine lv_istore (lv' := [(5, .int (iz aw)), (4, .int (iz kw)), (9, .int (iz (F_4 12 ((5 * ev) + kv)))), (8, .int (iz kv)), (7, .int (iz ev)), (6, .int (iz mw)), (3, .int (iz nw)), (0, .ref mo), (1, .int (iz p0)), (2, .int (iz p1))]) hx hb dX6_told_154 hl (by decide) rfl (fun ls hl => ?_)
                      refine lv_iload_n hx hb dX6_told_156 rfl (lv_at hl 6 rfl) ?_
                      refine lv_iload_n hx hb dX6_told_157 rfl (lv_at hl 8 rfl) ?_
                      refine ki_icmp_ne (tgt := 166) hx hb dX6_told_158 (by decide) (by omega) (by omega) (by omega) (by omega) (fun c_69 => ?_) (fun c_69 => ?_)
                      · skip
                        refine lv_iload hx hb dX6_told_166 (lv_at hl 5 rfl) ?_
                        refine lv_istore (lv' := [(6, .int (iz mw)), (5, .int (iz aw)), (4, .int (iz kw)), (9, .int (iz (F_4 12 ((5 * ev) + kv)))), (8, .int (iz kv)), (7, .int (iz ev)), (3, .int (iz nw)), (0, .ref mo), (1, .int (iz p0)), (2, .int (iz p1))]) hx hb dX6_told_168 hl (by decide) rfl (fun ls hl => ?_)
                        refine lv_iinc (v := iz (nw + 1)) (lv' := [(3, .int (iz (nw + 1))), (6, .int (iz mw)), (5, .int (iz aw)), (4, .int (iz kw)), (9, .int (iz (F_4 12 ((5 * ev) + kv)))), (8, .int (iz kv)), (7, .int (iz ev)), (0, .ref mo), (1, .int (iz p0)), (2, .int (iz p1))]) hx hb dX6_told_170 hl (k := 6) rfl (iz_add nw 1) (by decide) rfl (fun ls hl => ?_)
                        refine lv_iinc (v := iz (kv + 1)) (lv' := [(8, .int (iz (kv + 1))), (3, .int (iz (nw + 1))), (6, .int (iz mw)), (5, .int (iz aw)), (4, .int (iz kw)), (9, .int (iz (F_4 12 ((5 * ev) + kv)))), (7, .int (iz ev)), (0, .ref mo), (1, .int (iz p0)), (2, .int (iz p1))]) hx hb dX6_told_173 hl (k := 5) rfl (iz_add kv 1) (by decide) rfl (fun ls hl => ?_)
                        refine lv_goto (tgt := 89) hx hb dX6_told_176 (by decide) ?_
                        exact ih89 (nw + 1) kw aw mw (kv + 1) ⟨by omega, by omega, by omega, by omega, by omega⟩ (by omega) _ _ hP hD hS ls (lv_sub hl [0, 6, 2, 3, 4, 1, 7, 8, 9] rfl)
                      · omega
                    · omega
                  · skip
                    refine lv_iconst (v := iz 2) hx hb dX6_told_134 (by decide) ?_
                    refine lv_goto (tgt := 140) hx hb dX6_told_135 (by decide) ?_
                    refine lv_istore (lv' := [(4, .int (iz 2)), (9, .int (iz (F_4 12 ((5 * ev) + kv)))), (8, .int (iz kv)), (7, .int (iz ev)), (6, .int (iz mw)), (5, .int (iz aw)), (3, .int (iz nw)), (0, .ref mo), (1, .int (iz p0)), (2, .int (iz p1))]) hx hb dX6_told_140 hl (by decide) rfl (fun ls hl => ?_)
                    refine lv_iload_n hx hb dX6_told_142 rfl (lv_at hl 6 rfl) ?_
                    refine lv_iload_n hx hb dX6_told_143 rfl (lv_at hl 8 rfl) ?_
                    refine ki_icmp_ne (tgt := 152) hx hb dX6_told_144 (by decide) (by omega) (by omega) (by omega) (by omega) (fun c_70 => ?_) (fun c_70 => ?_)
                    · omega
                    · skip
                      refine lv_iload hx hb dX6_told_147 (lv_at hl 3 rfl) ?_
                      refine lv_goto (tgt := 154) hx hb dX6_told_149 (by decide) ?_
                      refine lv_istore (lv' := [(5, .int (iz ev)), (4, .int (iz 2)), (9, .int (iz (F_4 12 ((5 * ev) + kv)))), (8, .int (iz kv)), (7, .int (iz ev)), (6, .int (iz mw)), (3, .int (iz nw)), (0, .ref mo), (1, .int (iz p0)), (2, .int (iz p1))]) hx hb dX6_told_154 hl (by decide) rfl (fun ls hl => ?_)
                      refine lv_iload_n hx hb dX6_told_156 rfl (lv_at hl 6 rfl) ?_
                      refine lv_iload_n hx hb dX6_told_157 rfl (lv_at hl 8 rfl) ?_
                      refine ki_icmp_ne (tgt := 166) hx hb dX6_told_158 (by decide) (by omega) (by omega) (by omega) (by omega) (fun c_71 => ?_) (fun c_71 => ?_)
                      · omega
                      · skip
                        refine lv_iload hx hb dX6_told_161 (lv_at hl 2 rfl) ?_
                        refine lv_goto (tgt := 168) hx hb dX6_told_163 (by decide) ?_
                        refine lv_istore (lv' := [(6, .int (iz (F_4 12 ((5 * ev) + kv)))), (5, .int (iz ev)), (4, .int (iz 2)), (9, .int (iz (F_4 12 ((5 * ev) + kv)))), (8, .int (iz kv)), (7, .int (iz ev)), (3, .int (iz nw)), (0, .ref mo), (1, .int (iz p0)), (2, .int (iz p1))]) hx hb dX6_told_168 hl (by decide) rfl (fun ls hl => ?_)
                        refine lv_iinc (v := iz (nw + 1)) (lv' := [(3, .int (iz (nw + 1))), (6, .int (iz (F_4 12 ((5 * ev) + kv)))), (5, .int (iz ev)), (4, .int (iz 2)), (9, .int (iz (F_4 12 ((5 * ev) + kv)))), (8, .int (iz kv)), (7, .int (iz ev)), (0, .ref mo), (1, .int (iz p0)), (2, .int (iz p1))]) hx hb dX6_told_170 hl (k := 6) rfl (iz_add nw 1) (by decide) rfl (fun ls hl => ?_)
                        refine lv_iinc (v := iz (kv + 1)) (lv' := [(8, .int (iz (kv + 1))), (3, .int (iz (nw + 1))), (6, .int (iz (F_4 12 ((5 * ev) + kv)))), (5, .int (iz ev)), (4, .int (iz 2)), (9, .int (iz (F_4 12 ((5 * ev) + kv)))), (7, .int (iz ev)), (0, .ref mo), (1, .int (iz p0)), (2, .int (iz p1))]) hx hb dX6_told_173 hl (k := 5) rfl (iz_add kv 1) (by decide) rfl (fun ls hl => ?_)
                        refine lv_goto (tgt := 89) hx hb dX6_told_176 (by decide) ?_
                        exact ih89 (nw + 1) 2 ev (F_4 12 ((5 * ev) + kv)) (kv + 1) ⟨by omega, by omega, by omega, by omega, by omega⟩ (by omega) _ _ hP hD hS ls (lv_sub hl [0, 6, 2, 3, 4, 1, 7, 8, 9] rfl)
          exact lp89 _ nv kd av mv 0 ⟨by omega, by omega, by omega, by omega, by omega⟩ (Nat.lt_succ_self _) _ _ hP hD hS ls (lv_sub hl [0, 1, 2, 3, 4, 5, 6, 7, 8] rfl)
        · skip
          refine lv_iload_n hx hb dX6_told_37 rfl (lv_at hl 4 rfl) ?_
          refine lv_iload_n hx hb dX6_told_38 rfl (lv_at hl 6 rfl) ?_
          refine ki_icmp_ne (tgt := 46) hx hb dX6_told_39 (by decide) (by omega) (by omega) (by omega) (by omega) (fun c_72 => ?_) (fun c_72 => ?_)
          · skip
            refine lv_iload hx hb dX6_told_46 (lv_at hl 3 rfl) ?_
            refine lv_istore (lv' := [(4, .int (iz kd)), (7, .int (iz ev)), (6, .int (iz mv)), (5, .int (iz av)), (3, .int (iz nv)), (0, .ref mo), (1, .int (iz p0)), (2, .int (iz p1))]) hx hb dX6_told_48 hl (by decide) rfl (fun ls hl => ?_)
            refine lv_iload_n hx hb dX6_told_50 rfl (lv_at hl 4 rfl) ?_
            refine lv_iload_n hx hb dX6_told_51 rfl (lv_at hl 6 rfl) ?_
            refine ki_icmp_ne (tgt := 60) hx hb dX6_told_52 (by decide) (by omega) (by omega) (by omega) (by omega) (fun c_73 => ?_) (fun c_73 => ?_)
            · skip
              refine lv_iload hx hb dX6_told_60 (lv_at hl 3 rfl) ?_
              refine lv_istore (lv' := [(5, .int (iz av)), (4, .int (iz kd)), (7, .int (iz ev)), (6, .int (iz mv)), (3, .int (iz nv)), (0, .ref mo), (1, .int (iz p0)), (2, .int (iz p1))]) hx hb dX6_told_62 hl (by decide) rfl (fun ls hl => ?_)
              refine lv_iload_n hx hb dX6_told_64 rfl (lv_at hl 4 rfl) ?_
              refine lv_iload_n hx hb dX6_told_65 rfl (lv_at hl 6 rfl) ?_
              refine ki_icmp_ne (tgt := 79) hx hb dX6_told_66 (by decide) (by omega) (by omega) (by omega) (by omega) (fun c_74 => ?_) (fun c_74 => ?_)
              · skip
                refine lv_iload hx hb dX6_told_79 (lv_at hl 3 rfl) ?_
                refine lv_istore (lv' := [(6, .int (iz mv)), (5, .int (iz av)), (4, .int (iz kd)), (7, .int (iz ev)), (3, .int (iz nv)), (0, .ref mo), (1, .int (iz p0)), (2, .int (iz p1))]) hx hb dX6_told_81 hl (by decide) rfl (fun ls hl => ?_)
                refine lv_iinc (v := iz (nv + 1)) (lv' := [(3, .int (iz (nv + 1))), (6, .int (iz mv)), (5, .int (iz av)), (4, .int (iz kd)), (7, .int (iz ev)), (0, .ref mo), (1, .int (iz p0)), (2, .int (iz p1))]) hx hb dX6_told_83 hl (k := 4) rfl (iz_add nv 1) (by decide) rfl (fun ls hl => ?_)
                refine lv_iconst (v := iz 0) hx hb dX6_told_86 (by decide) ?_
                refine lv_istore (lv' := [(8, .int (iz 0)), (3, .int (iz (nv + 1))), (6, .int (iz mv)), (5, .int (iz av)), (4, .int (iz kd)), (7, .int (iz ev)), (0, .ref mo), (1, .int (iz p0)), (2, .int (iz p1))]) hx hb dX6_told_87 hl (by decide) rfl (fun ls hl => ?_)
                have lp89 : ∀ (n : Nat) (nw kw aw mw kv : Int), ((0 ≤ nw ∧ nw ≤ 7 * ev + 1 + kv) ∧ (0 ≤ kw ∧ kw ≤ 3) ∧ (-2147483648 ≤ aw ∧ aw < 2147483648) ∧ (-2147483648 ≤ mw ∧ mw < 2147483648) ∧ (0 ≤ kv ∧ kv ≤ 5)) → (F_4 13 ev - kv).toNat < n → ∀ (H : Heap) (locs : List Loc), va_P (dC, dI) kxCl (mW mo ma cs I_3 F_4) H → va_D A (mW mo ma cs I_3 F_4) → va_S A s.heap H locs → ∀ ls : Array Slot, lv_has ls 10 [(8, .int (iz kv)), (3, .int (iz nw)), (6, .int (iz mw)), (5, .int (iz aw)), (4, .int (iz kw)), (7, .int (iz ev)), (0, .ref mo), (1, .int (iz p0)), (2, .int (iz p1))] → W p l e (headSpec [.code yX6_told cX6_told 10 (some .int)] ({ frames := 5, cells := 0, slots := 0, locals := 120 })).room s m ([.ref mo, .int (iz p0), .int (iz p1)] : List Value).toArray below meth c H locs 0 0 QQ (F0 m 89 ls []) := by
                  intro n
                  induction n with
                  | zero => intro nw kw aw mw kv hinv hm; exact absurd hm (Nat.not_lt_zero _)
                  | succ n ih89 =>
                    intro nw kw aw mw kv hinv hm H locs hP hD hS ls hl
                    obtain ⟨hnw, hkw, haw, hmw, hkv⟩ := hinv
                    refine lv_iload hx hb dX6_told_89 (lv_at hl 0 rfl) ?_
                    refine lv_aload_n hx hb dX6_told_91 rfl (lv_at hl 6 rfl) ?_
                    refine va_get (D := (dC, dI)) (ci := 6) (v := .ref (ma 13)) (C := RX6) (T := TX6) (N := 44) hx hb hts kt_X6 hown hK hP 0 rfl rfl 13 (by decide) (kx_word hG kq_04_msmall_38 rfl) (fun _ h9 => h9) rfl dX6_told_92 ?_
                    refine lv_iload hx hb dX6_told_95 (lv_at hl 5 rfl) ?_
                    refine ki_iald (F := F_4 13) hx hb hK hP 12 11 rfl rfl (by omega) (by omega) (by decide) dX6_told_97 ?_
                    have hbd_75 := hI5.hB.2 13 ev
                    refine ki_icmp_ge (tgt := 179) hx hb dX6_told_98 (by decide) (by omega) (by omega) (by omega) (by omega) (fun c_76 => ?_) (fun c_76 => ?_)
                    · skip
                      refine lv_aload_n hx hb dX6_told_179 rfl (lv_at hl 6 rfl) ?_
                      refine lv_iload hx hb dX6_told_180 (lv_at hl 5 rfl) ?_
                      refine mk_calli (As := [.int (iz ev)]) (rest := []) ⟨hx, hb, hml, hown, hts⟩ (k_isBare l dC dI mo ma cs I_3 F_4 ev H.size hI5.hB hI5.hc hI5.hln hI5.hlv (by omega)) (cwV 1 hts (kx_gV kq_11_mask_4 kq_11_mask_5 kq_11_mask_6 kq_04_msmall_6 kq_11_mask_7 rfl) rfl rfl rfl (by decide +kernel) ⟨Nat.le_of_ble_eq_true rfl, Nat.le_of_ble_eq_true rfl⟩) hP hD hK hG hZ hS hA rfl hl.1 rfl (Nat.le_of_ble_eq_true rfl) dX6_told_182 ⟨Nat.le_of_ble_eq_true rfl, Nat.le_of_ble_eq_true rfl⟩ (fun z_77 I_79 F_80 H locs hq_78 hP hD hS => ?_)
                      try dsimp only at hq_78
                      obtain ⟨rfl, rfl, hq_78⟩ := hq_78
                      refine ki_if_eq (tgt := 218) hx hb dX6_told_185 (by decide) (by omega) (by omega) (fun c_81 => ?_) (fun c_81 => ?_)
                      · skip
                        refine lv_iinc (v := iz (ev + 1)) (lv' := [(7, .int (iz (ev + 1))), (8, .int (iz kv)), (3, .int (iz nw)), (6, .int (iz mw)), (5, .int (iz aw)), (4, .int (iz kw)), (0, .ref mo), (1, .int (iz p0)), (2, .int (iz p1))]) hx hb dX6_told_218 hl (k := 5) rfl (iz_add ev 1) (by decide) rfl (fun ls hl => ?_)
                        refine lv_goto (tgt := 18) hx hb dX6_told_221 (by decide) ?_
                        exact ih18 nw kw aw mw (ev + 1) ⟨by omega, by omega, by omega, by omega, by omega⟩ (by omega) _ _ hP hD hS ls (lv_sub hl [0, 3, 4, 5, 2, 6, 7, 8] rfl)
                      · skip
                        refine lv_iload_n hx hb dX6_told_188 rfl (lv_at hl 1 rfl) ?_
                        refine lv_iload_n hx hb dX6_told_189 rfl (lv_at hl 7 rfl) ?_
                        refine ki_icmp_ne (tgt := 197) hx hb dX6_told_190 (by decide) (by omega) (by omega) (by omega) (by omega) (fun c_82 => ?_) (fun c_82 => ?_)
                        · skip
                          refine lv_iload hx hb dX6_told_197 (lv_at hl 4 rfl) ?_
                          refine lv_istore (lv' := [(4, .int (iz kw)), (8, .int (iz kv)), (3, .int (iz nw)), (6, .int (iz mw)), (5, .int (iz aw)), (7, .int (iz ev)), (0, .ref mo), (1, .int (iz p0)), (2, .int (iz p1))]) hx hb dX6_told_199 hl (by decide) rfl (fun ls hl => ?_)
                          refine lv_iload_n hx hb dX6_told_201 rfl (lv_at hl 2 rfl) ?_
                          refine lv_iload_n hx hb dX6_told_202 rfl (lv_at hl 7 rfl) ?_
                          refine ki_icmp_ne (tgt := 211) hx hb dX6_told_203 (by decide) (by omega) (by omega) (by omega) (by omega) (fun c_83 => ?_) (fun c_83 => ?_)
                          · skip
                            refine lv_iload hx hb dX6_told_211 (lv_at hl 4 rfl) ?_
                            refine lv_istore (lv' := [(5, .int (iz aw)), (4, .int (iz kw)), (8, .int (iz kv)), (3, .int (iz nw)), (6, .int (iz mw)), (7, .int (iz ev)), (0, .ref mo), (1, .int (iz p0)), (2, .int (iz p1))]) hx hb dX6_told_213 hl (by decide) rfl (fun ls hl => ?_)
                            refine lv_iinc (v := iz (nw + 1)) (lv' := [(3, .int (iz (nw + 1))), (5, .int (iz aw)), (4, .int (iz kw)), (8, .int (iz kv)), (6, .int (iz mw)), (7, .int (iz ev)), (0, .ref mo), (1, .int (iz p0)), (2, .int (iz p1))]) hx hb dX6_told_215 hl (k := 3) rfl (iz_add nw 1) (by decide) rfl (fun ls hl => ?_)
                            refine lv_iinc (v := iz (ev + 1)) (lv' := [(7, .int (iz (ev + 1))), (3, .int (iz (nw + 1))), (5, .int (iz aw)), (4, .int (iz kw)), (8, .int (iz kv)), (6, .int (iz mw)), (0, .ref mo), (1, .int (iz p0)), (2, .int (iz p1))]) hx hb dX6_told_218 hl (k := 5) rfl (iz_add ev 1) (by decide) rfl (fun ls hl => ?_)
                            refine lv_goto (tgt := 18) hx hb dX6_told_221 (by decide) ?_
                            exact ih18 (nw + 1) kw aw mw (ev + 1) ⟨by omega, by omega, by omega, by omega, by omega⟩ (by omega) _ _ hP hD hS ls (lv_sub hl [0, 5, 2, 3, 1, 6, 7, 8] rfl)
                          · omega
                        · skip
                          refine lv_iconst (v := iz 3) hx hb dX6_told_193 (by decide) ?_
                          refine lv_goto (tgt := 199) hx hb dX6_told_194 (by decide) ?_
                          refine lv_istore (lv' := [(4, .int (iz 3)), (8, .int (iz kv)), (3, .int (iz nw)), (6, .int (iz mw)), (5, .int (iz aw)), (7, .int (iz ev)), (0, .ref mo), (1, .int (iz p0)), (2, .int (iz p1))]) hx hb dX6_told_199 hl (by decide) rfl (fun ls hl => ?_)
                          refine lv_iload_n hx hb dX6_told_201 rfl (lv_at hl 2 rfl) ?_
                          refine lv_iload_n hx hb dX6_told_202 rfl (lv_at hl 7 rfl) ?_
                          refine ki_icmp_ne (tgt := 211) hx hb dX6_told_203 (by decide) (by omega) (by omega) (by omega) (by omega) (fun c_84 => ?_) (fun c_84 => ?_)
                          · omega
                          · skip
                            refine lv_iload hx hb dX6_told_206 (lv_at hl 5 rfl) ?_
                            refine lv_goto (tgt := 213) hx hb dX6_told_208 (by decide) ?_
                            refine lv_istore (lv' := [(5, .int (iz ev)), (4, .int (iz 3)), (8, .int (iz kv)), (3, .int (iz nw)), (6, .int (iz mw)), (7, .int (iz ev)), (0, .ref mo), (1, .int (iz p0)), (2, .int (iz p1))]) hx hb dX6_told_213 hl (by decide) rfl (fun ls hl => ?_)
                            refine lv_iinc (v := iz (nw + 1)) (lv' := [(3, .int (iz (nw + 1))), (5, .int (iz ev)), (4, .int (iz 3)), (8, .int (iz kv)), (6, .int (iz mw)), (7, .int (iz ev)), (0, .ref mo), (1, .int (iz p0)), (2, .int (iz p1))]) hx hb dX6_told_215 hl (k := 3) rfl (iz_add nw 1) (by decide) rfl (fun ls hl => ?_)
                            refine lv_iinc (v := iz (ev + 1)) (lv' := [(7, .int (iz (ev + 1))), (3, .int (iz (nw + 1))), (5, .int (iz ev)), (4, .int (iz 3)), (8, .int (iz kv)), (6, .int (iz mw)), (0, .ref mo), (1, .int (iz p0)), (2, .int (iz p1))]) hx hb dX6_told_218 hl (k := 5) rfl (iz_add ev 1) (by decide) rfl (fun ls hl => ?_)
                            refine lv_goto (tgt := 18) hx hb dX6_told_221 (by decide) ?_
                            exact ih18 (nw + 1) 3 ev mw (ev + 1) ⟨by omega, by omega, by omega, by omega, by omega⟩ (by omega) _ _ hP hD hS ls (lv_sub hl [0, 5, 2, 3, 1, 6, 7, 8] rfl)
                    · skip
                      have hse9 := hI5.hse ev kv (by omega) (by omega) (by omega) (by omega)
                      refine lv_aload_n hx hb dX6_told_101 rfl (lv_at hl 6 rfl) ?_
                      refine va_get (D := (dC, dI)) (ci := 6) (v := .ref (ma 12)) (C := RX6) (T := TX6) (N := 44) hx hb hts kt_X6 hown hK hP 0 rfl rfl 12 (by decide) (kx_word hG kq_04_msmall_39 rfl) (fun _ h9 => h9) rfl dX6_told_102 ?_
                      refine lv_iconst (v := iz 5) hx hb dX6_told_105 (by decide) ?_
                      refine lv_iload hx hb dX6_told_106 (lv_at hl 5 rfl) ?_
                      refine ki_imul hx hb dX6_told_108 ?_
                      refine lv_iload hx hb dX6_told_109 (lv_at hl 0 rfl) ?_
                      refine ki_iadd hx hb dX6_told_111 ?_
                      refine ki_iald (F := F_4 12) hx hb hK hP 11 10 rfl rfl (by omega) (by omega) (by decide) dX6_told_112 ?_
                      have hbd_85 := hI5.hB.2 12 ((5 * ev) + kv)
                      refine lv_istore (lv' := [(9, .int (iz (F_4 12 ((5 * ev) + kv)))), (8, .int (iz kv)), (3, .int (iz nw)), (6, .int (iz mw)), (5, .int (iz aw)), (4, .int (iz kw)), (7, .int (iz ev)), (0, .ref mo), (1, .int (iz p0)), (2, .int (iz p1))]) hx hb dX6_told_113 hl (by decide) rfl (fun ls hl => ?_)
                      refine lv_aload_n hx hb dX6_told_115 rfl (lv_at hl 7 rfl) ?_
                      refine lv_aload_n hx hb dX6_told_116 rfl (lv_at hl 7 rfl) ?_
                      refine va_get (D := (dC, dI)) (ci := 6) (v := .ref (ma 17)) (C := RX6) (T := TX6) (N := 44) hx hb hts kt_X6 hown hK hP 0 rfl rfl 17 (by decide) (kx_word hG kq_06_mway_15 rfl) (fun _ h9 => h9) rfl dX6_told_117 ?_
                      have hsm9 := hsmL (F_4 12 ((5 * ev) + kv)) (by omega) (by omega)
                      refine lv_iload hx hb dX6_told_120 (lv_at hl 0 rfl) ?_
                      refine ki_iald (F := F_4 17) hx hb hK hP 13 12 rfl rfl (by omega) (by omega) (by decide) dX6_told_122 ?_
                      have hbd_86 := hI5.hB.2 17 (F_4 12 ((5 * ev) + kv))
                      refine mk_calli (As := [.int (iz (F_4 17 (F_4 12 ((5 * ev) + kv))))]) (rest := []) ⟨hx, hb, hml, hown, hts⟩ (k_hasPage l dC dI mo ma cs I_3 F_4 (F_4 17 (F_4 12 ((5 * ev) + kv))) H.size hI5.hB hI5.hc hI5.hln (by omega) (by omega)) (cwV 1 hts (kx_gV kq_08_mgather_9 kq_08_mgather_10 kq_08_mgather_11 kq_04_msmall_6 kq_08_mgather_12 rfl) rfl rfl rfl (by decide +kernel) ⟨Nat.le_of_ble_eq_true rfl, Nat.le_of_ble_eq_true rfl⟩) hP hD hK hG hZ hS hA rfl hl.1 rfl (Nat.le_of_ble_eq_true rfl) dX6_told_123 ⟨Nat.le_of_ble_eq_true rfl, Nat.le_of_ble_eq_true rfl⟩ (fun z_87 I_89 F_90 H locs hq_88 hP hD hS => ?_)
                      try dsimp only at hq_88
                      obtain ⟨rfl, rfl, hq_88⟩ := hq_88
                      refine ki_if_ne (tgt := 173) hx hb dX6_told_126 (by decide) (by omega) (by omega) (fun c_91 => ?_) (fun c_91 => ?_)
                      · skip
                        refine lv_iinc (v := iz (kv + 1)) (lv' := [(8, .int (iz (kv + 1))), (9, .int (iz (F_4 12 ((5 * ev) + kv)))), (3, .int (iz nw)), (6, .int (iz mw)), (5, .int (iz aw)), (4, .int (iz kw)), (7, .int (iz ev)), (0, .ref mo), (1, .int (iz p0)), (2, .int (iz p1))]) hx hb dX6_told_173 hl (k := 1) rfl (iz_add kv 1) (by decide) rfl (fun ls hl => ?_)
                        refine lv_goto (tgt := 89) hx hb dX6_told_176 (by decide) ?_
                        exact ih89 nw kw aw mw (kv + 1) ⟨by omega, by omega, by omega, by omega, by omega⟩ (by omega) _ _ hP hD hS ls (lv_sub hl [0, 2, 3, 4, 5, 6, 7, 8, 9] rfl)
                      · skip
                        refine lv_iload_n hx hb dX6_told_129 rfl (lv_at hl 2 rfl) ?_
                        refine lv_iload_n hx hb dX6_told_130 rfl (lv_at hl 8 rfl) ?_
                        refine ki_icmp_ne (tgt := 138) hx hb dX6_told_131 (by decide) (by omega) (by omega) (by omega) (by omega) (fun c_92 => ?_) (fun c_92 => ?_)
                        · skip
                          refine lv_iload hx hb dX6_told_138 (lv_at hl 5 rfl) ?_
                          refine lv_istore (lv' := [(4, .int (iz kw)), (9, .int (iz (F_4 12 ((5 * ev) + kv)))), (8, .int (iz kv)), (3, .int (iz nw)), (6, .int (iz mw)), (5, .int (iz aw)), (7, .int (iz ev)), (0, .ref mo), (1, .int (iz p0)), (2, .int (iz p1))]) hx hb dX6_told_140 hl (by decide) rfl (fun ls hl => ?_)
                          refine lv_iload_n hx hb dX6_told_142 rfl (lv_at hl 3 rfl) ?_
                          refine lv_iload_n hx hb dX6_told_143 rfl (lv_at hl 8 rfl) ?_
                          refine ki_icmp_ne (tgt := 152) hx hb dX6_told_144 (by decide) (by omega) (by omega) (by omega) (by omega) (fun c_93 => ?_) (fun c_93 => ?_)
                          · skip
                            refine lv_iload hx hb dX6_told_152 (lv_at hl 5 rfl) ?_
                            refine lv_istore (lv' := [(5, .int (iz aw)), (4, .int (iz kw)), (9, .int (iz (F_4 12 ((5 * ev) + kv)))), (8, .int (iz kv)), (3, .int (iz nw)), (6, .int (iz mw)), (7, .int (iz ev)), (0, .ref mo), (1, .int (iz p0)), (2, .int (iz p1))]) hx hb dX6_told_154 hl (by decide) rfl (fun ls hl => ?_)
                            refine lv_iload_n hx hb dX6_told_156 rfl (lv_at hl 4 rfl) ?_
                            refine lv_iload_n hx hb dX6_told_157 rfl (lv_at hl 8 rfl) ?_
                            refine ki_icmp_ne (tgt := 166) hx hb dX6_told_158 (by decide) (by omega) (by omega) (by omega) (by omega) (fun c_94 => ?_) (fun c_94 => ?_)
                            · skip
                              refine lv_iload hx hb dX6_told_166 (lv_at hl 5 rfl) ?_
                              refine lv_istore (lv' := [(6, .int (iz mw)), (5, .int (iz aw)), (4, .int (iz kw)), (9, .int (iz (F_4 12 ((5 * ev) + kv)))), (8, .int (iz kv)), (3, .int (iz nw)), (7, .int (iz ev)), (0, .ref mo), (1, .int (iz p0)), (2, .int (iz p1))]) hx hb dX6_told_168 hl (by decide) rfl (fun ls hl => ?_)
                              refine lv_iinc (v := iz (nw + 1)) (lv' := [(3, .int (iz (nw + 1))), (6, .int (iz mw)), (5, .int (iz aw)), (4, .int (iz kw)), (9, .int (iz (F_4 12 ((5 * ev) + kv)))), (8, .int (iz kv)), (7, .int (iz ev)), (0, .ref mo), (1, .int (iz p0)), (2, .int (iz p1))]) hx hb dX6_told_170 hl (k := 5) rfl (iz_add nw 1) (by decide) rfl (fun ls hl => ?_)
                              refine lv_iinc (v := iz (kv + 1)) (lv' := [(8, .int (iz (kv + 1))), (3, .int (iz (nw + 1))), (6, .int (iz mw)), (5, .int (iz aw)), (4, .int (iz kw)), (9, .int (iz (F_4 12 ((5 * ev) + kv)))), (7, .int (iz ev)), (0, .ref mo), (1, .int (iz p0)), (2, .int (iz p1))]) hx hb dX6_told_173 hl (k := 5) rfl (iz_add kv 1) (by decide) rfl (fun ls hl => ?_)
                              refine lv_goto (tgt := 89) hx hb dX6_told_176 (by decide) ?_
                              exact ih89 (nw + 1) kw aw mw (kv + 1) ⟨by omega, by omega, by omega, by omega, by omega⟩ (by omega) _ _ hP hD hS ls (lv_sub hl [0, 1, 2, 3, 4, 6, 7, 8, 9] rfl)
                            · omega
                          · omega
                        · skip
                          refine lv_iconst (v := iz 2) hx hb dX6_told_134 (by decide) ?_
                          refine lv_goto (tgt := 140) hx hb dX6_told_135 (by decide) ?_
                          refine lv_istore (lv' := [(4, .int (iz 2)), (9, .int (iz (F_4 12 ((5 * ev) + kv)))), (8, .int (iz kv)), (3, .int (iz nw)), (6, .int (iz mw)), (5, .int (iz aw)), (7, .int (iz ev)), (0, .ref mo), (1, .int (iz p0)), (2, .int (iz p1))]) hx hb dX6_told_140 hl (by decide) rfl (fun ls hl => ?_)
                          refine lv_iload_n hx hb dX6_told_142 rfl (lv_at hl 3 rfl) ?_
                          refine lv_iload_n hx hb dX6_told_143 rfl (lv_at hl 8 rfl) ?_
                          refine ki_icmp_ne (tgt := 152) hx hb dX6_told_144 (by decide) (by omega) (by omega) (by omega) (by omega) (fun c_95 => ?_) (fun c_95 => ?_)
                          · omega
                          · skip
                            refine lv_iload hx hb dX6_told_147 (lv_at hl 6 rfl) ?_
                            refine lv_goto (tgt := 154) hx hb dX6_told_149 (by decide) ?_
                            refine lv_istore (lv' := [(5, .int (iz ev)), (4, .int (iz 2)), (9, .int (iz (F_4 12 ((5 * ev) + kv)))), (8, .int (iz kv)), (3, .int (iz nw)), (6, .int (iz mw)), (7, .int (iz ev)), (0, .ref mo), (1, .int (iz p0)), (2, .int (iz p1))]) hx hb dX6_told_154 hl (by decide) rfl (fun ls hl => ?_)
                            refine lv_iload_n hx hb dX6_told_156 rfl (lv_at hl 4 rfl) ?_
                            refine lv_iload_n hx hb dX6_told_157 rfl (lv_at hl 8 rfl) ?_
                            refine ki_icmp_ne (tgt := 166) hx hb dX6_told_158 (by decide) (by omega) (by omega) (by omega) (by omega) (fun c_96 => ?_) (fun c_96 => ?_)
                            · omega
                            · skip
                              refine lv_iload hx hb dX6_told_161 (lv_at hl 2 rfl) ?_
                              refine lv_goto (tgt := 168) hx hb dX6_told_163 (by decide) ?_
                              refine lv_istore (lv' := [(6, .int (iz (F_4 12 ((5 * ev) + kv)))), (5, .int (iz ev)), (4, .int (iz 2)), (9, .int (iz (F_4 12 ((5 * ev) + kv)))), (8, .int (iz kv)), (3, .int (iz nw)), (7, .int (iz ev)), (0, .ref mo), (1, .int (iz p0)), (2, .int (iz p1))]) hx hb dX6_told_168 hl (by decide) rfl (fun ls hl => ?_)
                              refine lv_iinc (v := iz (nw + 1)) (lv' := [(3, .int (iz (nw + 1))), (6, .int (iz (F_4 12 ((5 * ev) + kv)))), (5, .int (iz ev)), (4, .int (iz 2)), (9, .int (iz (F_4 12 ((5 * ev) + kv)))), (8, .int (iz kv)), (7, .int (iz ev)), (0, .ref mo), (1, .int (iz p0)), (2, .int (iz p1))]) hx hb dX6_told_170 hl (k := 5) rfl (iz_add nw 1) (by decide) rfl (fun ls hl => ?_)
                              refine lv_iinc (v := iz (kv + 1)) (lv' := [(8, .int (iz (kv + 1))), (3, .int (iz (nw + 1))), (6, .int (iz (F_4 12 ((5 * ev) + kv)))), (5, .int (iz ev)), (4, .int (iz 2)), (9, .int (iz (F_4 12 ((5 * ev) + kv)))), (7, .int (iz ev)), (0, .ref mo), (1, .int (iz p0)), (2, .int (iz p1))]) hx hb dX6_told_173 hl (k := 5) rfl (iz_add kv 1) (by decide) rfl (fun ls hl => ?_)
                              refine lv_goto (tgt := 89) hx hb dX6_told_176 (by decide) ?_
                              exact ih89 (nw + 1) 2 ev (F_4 12 ((5 * ev) + kv)) (kv + 1) ⟨by omega, by omega, by omega, by omega, by omega⟩ (by omega) _ _ hP hD hS ls (lv_sub hl [0, 1, 2, 3, 4, 6, 7, 8, 9] rfl)
                exact lp89 _ (nv + 1) kd av mv 0 ⟨by omega, by omega, by omega, by omega, by omega⟩ (Nat.lt_succ_self _) _ _ hP hD hS ls (lv_sub hl [0, 1, 2, 3, 4, 5, 6, 7, 8] rfl)
              · omega
            · omega
          · skip
            refine lv_iconst (v := iz 1) hx hb dX6_told_42 (by decide) ?_
            refine lv_goto (tgt := 48) hx hb dX6_told_43 (by decide) ?_
            refine lv_istore (lv' := [(4, .int (iz 1)), (7, .int (iz ev)), (6, .int (iz mv)), (5, .int (iz av)), (3, .int (iz nv)), (0, .ref mo), (1, .int (iz p0)), (2, .int (iz p1))]) hx hb dX6_told_48 hl (by decide) rfl (fun ls hl => ?_)
            refine lv_iload_n hx hb dX6_told_50 rfl (lv_at hl 4 rfl) ?_
            refine lv_iload_n hx hb dX6_told_51 rfl (lv_at hl 6 rfl) ?_
            refine ki_icmp_ne (tgt := 60) hx hb dX6_told_52 (by decide) (by omega) (by omega) (by omega) (by omega) (fun c_97 => ?_) (fun c_97 => ?_)
            · omega
            · skip
              refine lv_iload hx hb dX6_told_55 (lv_at hl 1 rfl) ?_
              refine lv_goto (tgt := 62) hx hb dX6_told_57 (by decide) ?_
              refine lv_istore (lv' := [(5, .int (iz ev)), (4, .int (iz 1)), (7, .int (iz ev)), (6, .int (iz mv)), (3, .int (iz nv)), (0, .ref mo), (1, .int (iz p0)), (2, .int (iz p1))]) hx hb dX6_told_62 hl (by decide) rfl (fun ls hl => ?_)
              refine lv_iload_n hx hb dX6_told_64 rfl (lv_at hl 4 rfl) ?_
              refine lv_iload_n hx hb dX6_told_65 rfl (lv_at hl 6 rfl) ?_
              refine ki_icmp_ne (tgt := 79) hx hb dX6_told_66 (by decide) (by omega) (by omega) (by omega) (by omega) (fun c_98 => ?_) (fun c_98 => ?_)
              · omega
              · skip
                refine lv_aload_n hx hb dX6_told_69 rfl (lv_at hl 5 rfl) ?_
                refine va_get (D := (dC, dI)) (ci := 6) (v := .ref (ma 11)) (C := RX6) (T := TX6) (N := 44) hx hb hts kt_X6 hown hK hP 0 rfl rfl 11 (by decide) (kx_word hG kq_04_msmall_21 rfl) (fun _ h9 => h9) rfl dX6_told_70 ?_
                refine lv_iload hx hb dX6_told_73 (lv_at hl 2 rfl) ?_
                refine ki_iald (F := F_4 11) hx hb hK hP 10 9 rfl rfl (by omega) (by omega) (by decide) dX6_told_75 ?_
                refine lv_goto (tgt := 81) hx hb dX6_told_76 (by decide) ?_
                refine lv_istore (lv' := [(6, .int (iz (F_4 11 ev))), (5, .int (iz ev)), (4, .int (iz 1)), (7, .int (iz ev)), (3, .int (iz nv)), (0, .ref mo), (1, .int (iz p0)), (2, .int (iz p1))]) hx hb dX6_told_81 hl (by decide) rfl (fun ls hl => ?_)
                refine lv_iinc (v := iz (nv + 1)) (lv' := [(3, .int (iz (nv + 1))), (6, .int (iz (F_4 11 ev))), (5, .int (iz ev)), (4, .int (iz 1)), (7, .int (iz ev)), (0, .ref mo), (1, .int (iz p0)), (2, .int (iz p1))]) hx hb dX6_told_83 hl (k := 4) rfl (iz_add nv 1) (by decide) rfl (fun ls hl => ?_)
                refine lv_iconst (v := iz 0) hx hb dX6_told_86 (by decide) ?_
                refine lv_istore (lv' := [(8, .int (iz 0)), (3, .int (iz (nv + 1))), (6, .int (iz (F_4 11 ev))), (5, .int (iz ev)), (4, .int (iz 1)), (7, .int (iz ev)), (0, .ref mo), (1, .int (iz p0)), (2, .int (iz p1))]) hx hb dX6_told_87 hl (by decide) rfl (fun ls hl => ?_)
                have lp89 : ∀ (n : Nat) (nw kw aw mw kv : Int), ((0 ≤ nw ∧ nw ≤ 7 * ev + 1 + kv) ∧ (0 ≤ kw ∧ kw ≤ 3) ∧ (-2147483648 ≤ aw ∧ aw < 2147483648) ∧ (-2147483648 ≤ mw ∧ mw < 2147483648) ∧ (0 ≤ kv ∧ kv ≤ 5)) → (F_4 13 ev - kv).toNat < n → ∀ (H : Heap) (locs : List Loc), va_P (dC, dI) kxCl (mW mo ma cs I_3 F_4) H → va_D A (mW mo ma cs I_3 F_4) → va_S A s.heap H locs → ∀ ls : Array Slot, lv_has ls 10 [(8, .int (iz kv)), (3, .int (iz nw)), (6, .int (iz mw)), (5, .int (iz aw)), (4, .int (iz kw)), (7, .int (iz ev)), (0, .ref mo), (1, .int (iz p0)), (2, .int (iz p1))] → W p l e (headSpec [.code yX6_told cX6_told 10 (some .int)] ({ frames := 5, cells := 0, slots := 0, locals := 120 })).room s m ([.ref mo, .int (iz p0), .int (iz p1)] : List Value).toArray below meth c H locs 0 0 QQ (F0 m 89 ls []) := by
                  intro n
                  induction n with
                  | zero => intro nw kw aw mw kv hinv hm; exact absurd hm (Nat.not_lt_zero _)
                  | succ n ih89 =>
                    intro nw kw aw mw kv hinv hm H locs hP hD hS ls hl
                    obtain ⟨hnw, hkw, haw, hmw, hkv⟩ := hinv
                    refine lv_iload hx hb dX6_told_89 (lv_at hl 0 rfl) ?_
                    refine lv_aload_n hx hb dX6_told_91 rfl (lv_at hl 6 rfl) ?_
                    refine va_get (D := (dC, dI)) (ci := 6) (v := .ref (ma 13)) (C := RX6) (T := TX6) (N := 44) hx hb hts kt_X6 hown hK hP 0 rfl rfl 13 (by decide) (kx_word hG kq_04_msmall_38 rfl) (fun _ h9 => h9) rfl dX6_told_92 ?_
                    refine lv_iload hx hb dX6_told_95 (lv_at hl 5 rfl) ?_
                    refine ki_iald (F := F_4 13) hx hb hK hP 12 11 rfl rfl (by omega) (by omega) (by decide) dX6_told_97 ?_
                    have hbd_99 := hI5.hB.2 13 ev
                    refine ki_icmp_ge (tgt := 179) hx hb dX6_told_98 (by decide) (by omega) (by omega) (by omega) (by omega) (fun c_100 => ?_) (fun c_100 => ?_)
                    · skip
                      refine lv_aload_n hx hb dX6_told_179 rfl (lv_at hl 6 rfl) ?_
                      refine lv_iload hx hb dX6_told_180 (lv_at hl 5 rfl) ?_
                      refine mk_calli (As := [.int (iz ev)]) (rest := []) ⟨hx, hb, hml, hown, hts⟩ (k_isBare l dC dI mo ma cs I_3 F_4 ev H.size hI5.hB hI5.hc hI5.hln hI5.hlv (by omega)) (cwV 1 hts (kx_gV kq_11_mask_4 kq_11_mask_5 kq_11_mask_6 kq_04_msmall_6 kq_11_mask_7 rfl) rfl rfl rfl (by decide +kernel) ⟨Nat.le_of_ble_eq_true rfl, Nat.le_of_ble_eq_true rfl⟩) hP hD hK hG hZ hS hA rfl hl.1 rfl (Nat.le_of_ble_eq_true rfl) dX6_told_182 ⟨Nat.le_of_ble_eq_true rfl, Nat.le_of_ble_eq_true rfl⟩ (fun z_101 I_103 F_104 H locs hq_102 hP hD hS => ?_)
                      try dsimp only at hq_102
                      obtain ⟨rfl, rfl, hq_102⟩ := hq_102
                      refine ki_if_eq (tgt := 218) hx hb dX6_told_185 (by decide) (by omega) (by omega) (fun c_105 => ?_) (fun c_105 => ?_)
                      · skip
                        refine lv_iinc (v := iz (ev + 1)) (lv' := [(7, .int (iz (ev + 1))), (8, .int (iz kv)), (3, .int (iz nw)), (6, .int (iz mw)), (5, .int (iz aw)), (4, .int (iz kw)), (0, .ref mo), (1, .int (iz p0)), (2, .int (iz p1))]) hx hb dX6_told_218 hl (k := 5) rfl (iz_add ev 1) (by decide) rfl (fun ls hl => ?_)
                        refine lv_goto (tgt := 18) hx hb dX6_told_221 (by decide) ?_
                        exact ih18 nw kw aw mw (ev + 1) ⟨by omega, by omega, by omega, by omega, by omega⟩ (by omega) _ _ hP hD hS ls (lv_sub hl [0, 3, 4, 5, 2, 6, 7, 8] rfl)
                      · skip
                        refine lv_iload_n hx hb dX6_told_188 rfl (lv_at hl 1 rfl) ?_
                        refine lv_iload_n hx hb dX6_told_189 rfl (lv_at hl 7 rfl) ?_
                        refine ki_icmp_ne (tgt := 197) hx hb dX6_told_190 (by decide) (by omega) (by omega) (by omega) (by omega) (fun c_106 => ?_) (fun c_106 => ?_)
                        · skip
                          refine lv_iload hx hb dX6_told_197 (lv_at hl 4 rfl) ?_
                          refine lv_istore (lv' := [(4, .int (iz kw)), (8, .int (iz kv)), (3, .int (iz nw)), (6, .int (iz mw)), (5, .int (iz aw)), (7, .int (iz ev)), (0, .ref mo), (1, .int (iz p0)), (2, .int (iz p1))]) hx hb dX6_told_199 hl (by decide) rfl (fun ls hl => ?_)
                          refine lv_iload_n hx hb dX6_told_201 rfl (lv_at hl 2 rfl) ?_
                          refine lv_iload_n hx hb dX6_told_202 rfl (lv_at hl 7 rfl) ?_
                          refine ki_icmp_ne (tgt := 211) hx hb dX6_told_203 (by decide) (by omega) (by omega) (by omega) (by omega) (fun c_107 => ?_) (fun c_107 => ?_)
                          · skip
                            refine lv_iload hx hb dX6_told_211 (lv_at hl 4 rfl) ?_
                            refine lv_istore (lv' := [(5, .int (iz aw)), (4, .int (iz kw)), (8, .int (iz kv)), (3, .int (iz nw)), (6, .int (iz mw)), (7, .int (iz ev)), (0, .ref mo), (1, .int (iz p0)), (2, .int (iz p1))]) hx hb dX6_told_213 hl (by decide) rfl (fun ls hl => ?_)
                            refine lv_iinc (v := iz (nw + 1)) (lv' := [(3, .int (iz (nw + 1))), (5, .int (iz aw)), (4, .int (iz kw)), (8, .int (iz kv)), (6, .int (iz mw)), (7, .int (iz ev)), (0, .ref mo), (1, .int (iz p0)), (2, .int (iz p1))]) hx hb dX6_told_215 hl (k := 3) rfl (iz_add nw 1) (by decide) rfl (fun ls hl => ?_)
                            refine lv_iinc (v := iz (ev + 1)) (lv' := [(7, .int (iz (ev + 1))), (3, .int (iz (nw + 1))), (5, .int (iz aw)), (4, .int (iz kw)), (8, .int (iz kv)), (6, .int (iz mw)), (0, .ref mo), (1, .int (iz p0)), (2, .int (iz p1))]) hx hb dX6_told_218 hl (k := 5) rfl (iz_add ev 1) (by decide) rfl (fun ls hl => ?_)
                            refine lv_goto (tgt := 18) hx hb dX6_told_221 (by decide) ?_
                            exact ih18 (nw + 1) kw aw mw (ev + 1) ⟨by omega, by omega, by omega, by omega, by omega⟩ (by omega) _ _ hP hD hS ls (lv_sub hl [0, 5, 2, 3, 1, 6, 7, 8] rfl)
                          · omega
                        · skip
                          refine lv_iconst (v := iz 3) hx hb dX6_told_193 (by decide) ?_
                          refine lv_goto (tgt := 199) hx hb dX6_told_194 (by decide) ?_
                          refine lv_istore (lv' := [(4, .int (iz 3)), (8, .int (iz kv)), (3, .int (iz nw)), (6, .int (iz mw)), (5, .int (iz aw)), (7, .int (iz ev)), (0, .ref mo), (1, .int (iz p0)), (2, .int (iz p1))]) hx hb dX6_told_199 hl (by decide) rfl (fun ls hl => ?_)
                          refine lv_iload_n hx hb dX6_told_201 rfl (lv_at hl 2 rfl) ?_
                          refine lv_iload_n hx hb dX6_told_202 rfl (lv_at hl 7 rfl) ?_
                          refine ki_icmp_ne (tgt := 211) hx hb dX6_told_203 (by decide) (by omega) (by omega) (by omega) (by omega) (fun c_108 => ?_) (fun c_108 => ?_)
                          · omega
                          · skip
                            refine lv_iload hx hb dX6_told_206 (lv_at hl 5 rfl) ?_
                            refine lv_goto (tgt := 213) hx hb dX6_told_208 (by decide) ?_
                            refine lv_istore (lv' := [(5, .int (iz ev)), (4, .int (iz 3)), (8, .int (iz kv)), (3, .int (iz nw)), (6, .int (iz mw)), (7, .int (iz ev)), (0, .ref mo), (1, .int (iz p0)), (2, .int (iz p1))]) hx hb dX6_told_213 hl (by decide) rfl (fun ls hl => ?_)
                            refine lv_iinc (v := iz (nw + 1)) (lv' := [(3, .int (iz (nw + 1))), (5, .int (iz ev)), (4, .int (iz 3)), (8, .int (iz kv)), (6, .int (iz mw)), (7, .int (iz ev)), (0, .ref mo), (1, .int (iz p0)), (2, .int (iz p1))]) hx hb dX6_told_215 hl (k := 3) rfl (iz_add nw 1) (by decide) rfl (fun ls hl => ?_)
                            refine lv_iinc (v := iz (ev + 1)) (lv' := [(7, .int (iz (ev + 1))), (3, .int (iz (nw + 1))), (5, .int (iz ev)), (4, .int (iz 3)), (8, .int (iz kv)), (6, .int (iz mw)), (0, .ref mo), (1, .int (iz p0)), (2, .int (iz p1))]) hx hb dX6_told_218 hl (k := 5) rfl (iz_add ev 1) (by decide) rfl (fun ls hl => ?_)
                            refine lv_goto (tgt := 18) hx hb dX6_told_221 (by decide) ?_
                            exact ih18 (nw + 1) 3 ev mw (ev + 1) ⟨by omega, by omega, by omega, by omega, by omega⟩ (by omega) _ _ hP hD hS ls (lv_sub hl [0, 5, 2, 3, 1, 6, 7, 8] rfl)
                    · skip
                      have hse9 := hI5.hse ev kv (by omega) (by omega) (by omega) (by omega)
                      refine lv_aload_n hx hb dX6_told_101 rfl (lv_at hl 6 rfl) ?_
                      refine va_get (D := (dC, dI)) (ci := 6) (v := .ref (ma 12)) (C := RX6) (T := TX6) (N := 44) hx hb hts kt_X6 hown hK hP 0 rfl rfl 12 (by decide) (kx_word hG kq_04_msmall_39 rfl) (fun _ h9 => h9) rfl dX6_told_102 ?_
                      refine lv_iconst (v := iz 5) hx hb dX6_told_105 (by decide) ?_
                      refine lv_iload hx hb dX6_told_106 (lv_at hl 5 rfl) ?_
                      refine ki_imul hx hb dX6_told_108 ?_
                      refine lv_iload hx hb dX6_told_109 (lv_at hl 0 rfl) ?_
                      refine ki_iadd hx hb dX6_told_111 ?_
                      refine ki_iald (F := F_4 12) hx hb hK hP 11 10 rfl rfl (by omega) (by omega) (by decide) dX6_told_112 ?_
                      have hbd_109 := hI5.hB.2 12 ((5 * ev) + kv)
                      refine lv_istore (lv' := [(9, .int (iz (F_4 12 ((5 * ev) + kv)))), (8, .int (iz kv)), (3, .int (iz nw)), (6, .int (iz mw)), (5, .int (iz aw)), (4, .int (iz kw)), (7, .int (iz ev)), (0, .ref mo), (1, .int (iz p0)), (2, .int (iz p1))]) hx hb dX6_told_113 hl (by decide) rfl (fun ls hl => ?_)
                      refine lv_aload_n hx hb dX6_told_115 rfl (lv_at hl 7 rfl) ?_
                      refine lv_aload_n hx hb dX6_told_116 rfl (lv_at hl 7 rfl) ?_
                      refine va_get (D := (dC, dI)) (ci := 6) (v := .ref (ma 17)) (C := RX6) (T := TX6) (N := 44) hx hb hts kt_X6 hown hK hP 0 rfl rfl 17 (by decide) (kx_word hG kq_06_mway_15 rfl) (fun _ h9 => h9) rfl dX6_told_117 ?_
                      have hsm9 := hsmL (F_4 12 ((5 * ev) + kv)) (by omega) (by omega)
                      refine lv_iload hx hb dX6_told_120 (lv_at hl 0 rfl) ?_
                      refine ki_iald (F := F_4 17) hx hb hK hP 13 12 rfl rfl (by omega) (by omega) (by decide) dX6_told_122 ?_
                      have hbd_110 := hI5.hB.2 17 (F_4 12 ((5 * ev) + kv))
                      refine mk_calli (As := [.int (iz (F_4 17 (F_4 12 ((5 * ev) + kv))))]) (rest := []) ⟨hx, hb, hml, hown, hts⟩ (k_hasPage l dC dI mo ma cs I_3 F_4 (F_4 17 (F_4 12 ((5 * ev) + kv))) H.size hI5.hB hI5.hc hI5.hln (by omega) (by omega)) (cwV 1 hts (kx_gV kq_08_mgather_9 kq_08_mgather_10 kq_08_mgather_11 kq_04_msmall_6 kq_08_mgather_12 rfl) rfl rfl rfl (by decide +kernel) ⟨Nat.le_of_ble_eq_true rfl, Nat.le_of_ble_eq_true rfl⟩) hP hD hK hG hZ hS hA rfl hl.1 rfl (Nat.le_of_ble_eq_true rfl) dX6_told_123 ⟨Nat.le_of_ble_eq_true rfl, Nat.le_of_ble_eq_true rfl⟩ (fun z_111 I_113 F_114 H locs hq_112 hP hD hS => ?_)
                      try dsimp only at hq_112
                      obtain ⟨rfl, rfl, hq_112⟩ := hq_112
                      refine ki_if_ne (tgt := 173) hx hb dX6_told_126 (by decide) (by omega) (by omega) (fun c_115 => ?_) (fun c_115 => ?_)
                      · skip
                        refine lv_iinc (v := iz (kv + 1)) (lv' := [(8, .int (iz (kv + 1))), (9, .int (iz (F_4 12 ((5 * ev) + kv)))), (3, .int (iz nw)), (6, .int (iz mw)), (5, .int (iz aw)), (4, .int (iz kw)), (7, .int (iz ev)), (0, .ref mo), (1, .int (iz p0)), (2, .int (iz p1))]) hx hb dX6_told_173 hl (k := 1) rfl (iz_add kv 1) (by decide) rfl (fun ls hl => ?_)
                        refine lv_goto (tgt := 89) hx hb dX6_told_176 (by decide) ?_
                        exact ih89 nw kw aw mw (kv + 1) ⟨by omega, by omega, by omega, by omega, by omega⟩ (by omega) _ _ hP hD hS ls (lv_sub hl [0, 2, 3, 4, 5, 6, 7, 8, 9] rfl)
                      · skip
                        refine lv_iload_n hx hb dX6_told_129 rfl (lv_at hl 2 rfl) ?_
                        refine lv_iload_n hx hb dX6_told_130 rfl (lv_at hl 8 rfl) ?_
                        refine ki_icmp_ne (tgt := 138) hx hb dX6_told_131 (by decide) (by omega) (by omega) (by omega) (by omega) (fun c_116 => ?_) (fun c_116 => ?_)
                        · skip
                          refine lv_iload hx hb dX6_told_138 (lv_at hl 5 rfl) ?_
                          refine lv_istore (lv' := [(4, .int (iz kw)), (9, .int (iz (F_4 12 ((5 * ev) + kv)))), (8, .int (iz kv)), (3, .int (iz nw)), (6, .int (iz mw)), (5, .int (iz aw)), (7, .int (iz ev)), (0, .ref mo), (1, .int (iz p0)), (2, .int (iz p1))]) hx hb dX6_told_140 hl (by decide) rfl (fun ls hl => ?_)
                          refine lv_iload_n hx hb dX6_told_142 rfl (lv_at hl 3 rfl) ?_
                          refine lv_iload_n hx hb dX6_told_143 rfl (lv_at hl 8 rfl) ?_
                          refine ki_icmp_ne (tgt := 152) hx hb dX6_told_144 (by decide) (by omega) (by omega) (by omega) (by omega) (fun c_117 => ?_) (fun c_117 => ?_)
                          · skip
                            refine lv_iload hx hb dX6_told_152 (lv_at hl 5 rfl) ?_
                            refine lv_istore (lv' := [(5, .int (iz aw)), (4, .int (iz kw)), (9, .int (iz (F_4 12 ((5 * ev) + kv)))), (8, .int (iz kv)), (3, .int (iz nw)), (6, .int (iz mw)), (7, .int (iz ev)), (0, .ref mo), (1, .int (iz p0)), (2, .int (iz p1))]) hx hb dX6_told_154 hl (by decide) rfl (fun ls hl => ?_)
                            refine lv_iload_n hx hb dX6_told_156 rfl (lv_at hl 4 rfl) ?_
                            refine lv_iload_n hx hb dX6_told_157 rfl (lv_at hl 8 rfl) ?_
                            refine ki_icmp_ne (tgt := 166) hx hb dX6_told_158 (by decide) (by omega) (by omega) (by omega) (by omega) (fun c_118 => ?_) (fun c_118 => ?_)
                            · skip
                              refine lv_iload hx hb dX6_told_166 (lv_at hl 5 rfl) ?_
                              refine lv_istore (lv' := [(6, .int (iz mw)), (5, .int (iz aw)), (4, .int (iz kw)), (9, .int (iz (F_4 12 ((5 * ev) + kv)))), (8, .int (iz kv)), (3, .int (iz nw)), (7, .int (iz ev)), (0, .ref mo), (1, .int (iz p0)), (2, .int (iz p1))]) hx hb dX6_told_168 hl (by decide) rfl (fun ls hl => ?_)
                              refine lv_iinc (v := iz (nw + 1)) (lv' := [(3, .int (iz (nw + 1))), (6, .int (iz mw)), (5, .int (iz aw)), (4, .int (iz kw)), (9, .int (iz (F_4 12 ((5 * ev) + kv)))), (8, .int (iz kv)), (7, .int (iz ev)), (0, .ref mo), (1, .int (iz p0)), (2, .int (iz p1))]) hx hb dX6_told_170 hl (k := 5) rfl (iz_add nw 1) (by decide) rfl (fun ls hl => ?_)
                              refine lv_iinc (v := iz (kv + 1)) (lv' := [(8, .int (iz (kv + 1))), (3, .int (iz (nw + 1))), (6, .int (iz mw)), (5, .int (iz aw)), (4, .int (iz kw)), (9, .int (iz (F_4 12 ((5 * ev) + kv)))), (7, .int (iz ev)), (0, .ref mo), (1, .int (iz p0)), (2, .int (iz p1))]) hx hb dX6_told_173 hl (k := 5) rfl (iz_add kv 1) (by decide) rfl (fun ls hl => ?_)
                              refine lv_goto (tgt := 89) hx hb dX6_told_176 (by decide) ?_
                              exact ih89 (nw + 1) kw aw mw (kv + 1) ⟨by omega, by omega, by omega, by omega, by omega⟩ (by omega) _ _ hP hD hS ls (lv_sub hl [0, 1, 2, 3, 4, 6, 7, 8, 9] rfl)
                            · omega
                          · omega
                        · skip
                          refine lv_iconst (v := iz 2) hx hb dX6_told_134 (by decide) ?_
                          refine lv_goto (tgt := 140) hx hb dX6_told_135 (by decide) ?_
                          refine lv_istore (lv' := [(4, .int (iz 2)), (9, .int (iz (F_4 12 ((5 * ev) + kv)))), (8, .int (iz kv)), (3, .int (iz nw)), (6, .int (iz mw)), (5, .int (iz aw)), (7, .int (iz ev)), (0, .ref mo), (1, .int (iz p0)), (2, .int (iz p1))]) hx hb dX6_told_140 hl (by decide) rfl (fun ls hl => ?_)
                          refine lv_iload_n hx hb dX6_told_142 rfl (lv_at hl 3 rfl) ?_
                          refine lv_iload_n hx hb dX6_told_143 rfl (lv_at hl 8 rfl) ?_
                          refine ki_icmp_ne (tgt := 152) hx hb dX6_told_144 (by decide) (by omega) (by omega) (by omega) (by omega) (fun c_119 => ?_) (fun c_119 => ?_)
                          · omega
                          · skip
                            refine lv_iload hx hb dX6_told_147 (lv_at hl 6 rfl) ?_
                            refine lv_goto (tgt := 154) hx hb dX6_told_149 (by decide) ?_
                            refine lv_istore (lv' := [(5, .int (iz ev)), (4, .int (iz 2)), (9, .int (iz (F_4 12 ((5 * ev) + kv)))), (8, .int (iz kv)), (3, .int (iz nw)), (6, .int (iz mw)), (7, .int (iz ev)), (0, .ref mo), (1, .int (iz p0)), (2, .int (iz p1))]) hx hb dX6_told_154 hl (by decide) rfl (fun ls hl => ?_)
                            refine lv_iload_n hx hb dX6_told_156 rfl (lv_at hl 4 rfl) ?_
                            refine lv_iload_n hx hb dX6_told_157 rfl (lv_at hl 8 rfl) ?_
                            refine ki_icmp_ne (tgt := 166) hx hb dX6_told_158 (by decide) (by omega) (by omega) (by omega) (by omega) (fun c_120 => ?_) (fun c_120 => ?_)
                            · omega
                            · skip
                              refine lv_iload hx hb dX6_told_161 (lv_at hl 2 rfl) ?_
                              refine lv_goto (tgt := 168) hx hb dX6_told_163 (by decide) ?_
                              refine lv_istore (lv' := [(6, .int (iz (F_4 12 ((5 * ev) + kv)))), (5, .int (iz ev)), (4, .int (iz 2)), (9, .int (iz (F_4 12 ((5 * ev) + kv)))), (8, .int (iz kv)), (3, .int (iz nw)), (7, .int (iz ev)), (0, .ref mo), (1, .int (iz p0)), (2, .int (iz p1))]) hx hb dX6_told_168 hl (by decide) rfl (fun ls hl => ?_)
                              refine lv_iinc (v := iz (nw + 1)) (lv' := [(3, .int (iz (nw + 1))), (6, .int (iz (F_4 12 ((5 * ev) + kv)))), (5, .int (iz ev)), (4, .int (iz 2)), (9, .int (iz (F_4 12 ((5 * ev) + kv)))), (8, .int (iz kv)), (7, .int (iz ev)), (0, .ref mo), (1, .int (iz p0)), (2, .int (iz p1))]) hx hb dX6_told_170 hl (k := 5) rfl (iz_add nw 1) (by decide) rfl (fun ls hl => ?_)
                              refine lv_iinc (v := iz (kv + 1)) (lv' := [(8, .int (iz (kv + 1))), (3, .int (iz (nw + 1))), (6, .int (iz (F_4 12 ((5 * ev) + kv)))), (5, .int (iz ev)), (4, .int (iz 2)), (9, .int (iz (F_4 12 ((5 * ev) + kv)))), (7, .int (iz ev)), (0, .ref mo), (1, .int (iz p0)), (2, .int (iz p1))]) hx hb dX6_told_173 hl (k := 5) rfl (iz_add kv 1) (by decide) rfl (fun ls hl => ?_)
                              refine lv_goto (tgt := 89) hx hb dX6_told_176 (by decide) ?_
                              exact ih89 (nw + 1) 2 ev (F_4 12 ((5 * ev) + kv)) (kv + 1) ⟨by omega, by omega, by omega, by omega, by omega⟩ (by omega) _ _ hP hD hS ls (lv_sub hl [0, 1, 2, 3, 4, 6, 7, 8, 9] rfl)
                exact lp89 _ (nv + 1) 1 ev (F_4 11 ev) 0 ⟨by omega, by omega, by omega, by omega, by omega⟩ (Nat.lt_succ_self _) _ _ hP hD hS ls (lv_sub hl [0, 1, 2, 3, 4, 5, 6, 7, 8] rfl)
  exact lp18 _ 0 0 0 0 0 ⟨by omega, by omega, by omega, by omega, by omega⟩ (Nat.lt_succ_self _) _ _ hP hD hS ls (lv_sub hl [0, 1, 2, 3, 4, 5, 6, 7] rfl)
set_option maxHeartbeats 4000000 in
set_option maxRecDepth 100000 in
theorem k_print (l : Launch) (dC : Nat → ClassId) (dI : Nat → Nat → Nat) (mo : Nat) (ma : Nat → Nat) (cs : Nat → ClassId) (I : Nat → Int) (F : Nat → Int → Int) (sz : Nat) (hI : mIv I F) : mMi l yX6_print (.code yX6_print cX6_print 5 (some .int)) 6 136 dC dI mo ma cs I F [.ref mo] sz (fun (r : Int) (I' : Nat → Int) (F' : Nat → Int → Int) => mWk I F I' F') := by
  refine Met.ofW (cc := cX6_print) (maxL := 5) (ret := (some .int)) (by decide) rfl ?_
  intro p e s m args below meth c s₁ B hml hv
  obtain ⟨rfl, hsz, hP, hK, hD0, hG, hZ⟩ := hv
  have hx := B.exec
  have hb := B.bytes
  have hr := B.returns
  have hts := kx_hts (a := ([.ref mo] : List Value).toArray) hG
  have hown : s.vm.findClass RX6 = some m.cls := findClass_of_methodNamed B.named
  have hlocks := B.notSynchronized
  subst hsz
  have hD := hD0.self (sz := s.heap.size)
  generalize hAe : va_A (mW mo ma cs I F) s.heap.size = A at hD hZ ⊢
  have hA : ∀ q : Nat, s.heap.size ≤ q → A q := fun q h => by rw [← hAe]; exact Or.inr h
  have hS : va_S A s.heap s.heap [] := va_S.rf
  have hl := lv_entry ([.ref mo]) (n := 5) (Nat.le_of_ble_eq_true rfl)
  rw [lg_entry_eq]
  generalize (lg_sl ([.ref mo]) ++ List.replicate (5 - (lg_sl ([.ref mo])).length) Slot.unset).toArray = ls at hl ⊢
  have hl : lv_has ls 5 [(0, .ref mo)] := hl
  generalize hQe : MQ below (mQi dC dI mo ma cs A (fun (r : Int) (I' : Nat → Int) (F' : Nat → Int → Int) => mWk I F I' F')) ([.ref mo] : List Value).toArray s 0 0 A = QQ
  have hW0 : mWk I F I F := mWk.rf hI
  have hc0 := hI.hc
  refine lv_aload_n hx hb dX6_print_0 rfl (lv_at hl 0 rfl) ?_
  refine mk_calli (As := []) (rest := []) ⟨hx, hb, hml, hown, hts⟩ (k_findFault l dC dI mo ma cs I F  s.heap.size hI.hB hI.hst) (cwV 0 hts (kx_gV kq_11_mask_8 kq_11_mask_9 kq_11_mask_10 kq_04_msmall_6 kq_11_mask_11 rfl) rfl rfl rfl (by decide +kernel) ⟨Nat.le_of_ble_eq_true rfl, Nat.le_of_ble_eq_true rfl⟩) hP hD hK hG hZ hS hA rfl hl.1 rfl (Nat.le_of_ble_eq_true rfl) dX6_print_1 ⟨Nat.le_of_ble_eq_true rfl, Nat.le_of_ble_eq_true rfl⟩ (fun z_1 I_3 F_4 H locs hq_2 hP hD hS => ?_)
  try dsimp only at hq_2
  have hk5 : mWk I F I_3 F_4 ∧ _ := mWk.ff hI hq_2.1 hq_2.2.1 hq_2.2.2.1
  have hI5 : mIv I_3 F_4 := hI.go hk5.1
  have hw5 : mWk _ _ I_3 F_4 := hW0.tr hk5.1
  have e165 := hk5.2.1
  have e195 := hk5.2.2
  have hc5 := hI5.hc
  have hx5a := hk5.1.2.1.1 1 (by decide)
  have hrf := hq_2.2.2.2.1
  have hbr0 : z_1 = -1 → mBr 4 I_3 F_4 := fun h9 => by have h8 := hq_2.2.2.2.2 h9; rw [← hq_2.1]; exact h8
  refine lv_istore_n (lv' := [(1, .int (iz z_1)), (0, .ref mo)]) hx hb dX6_print_4 rfl hl (by decide) rfl (fun ls hl => ?_)
  refine lv_iload_n hx hb dX6_print_5 rfl (lv_at hl 0 rfl) ?_
  refine lv_iconst (v := iz (-1)) hx hb dX6_print_6 (by decide) ?_
  refine ki_icmp_eq (tgt := 19) hx hb dX6_print_7 (by decide) (by omega) (by omega) (by omega) (by omega) (fun c_6 => ?_) (fun c_6 => ?_)
  · skip
    have hbr1 := hbr0 (by omega)
    refine lv_aload_n hx hb dX6_print_19 rfl (lv_at hl 1 rfl) ?_
    refine mk_callv (As := []) (rest := []) ⟨hx, hb, hml, hown, hts⟩ (k_look l dC dI mo ma cs I_3 F_4  H.size hI5.hB hI5.hc hI5.hn hI5.hlv hI5.hkn hI5.hk01) (cwV 0 hts (kx_gV kq_11_mask_0 kq_11_mask_1 kq_11_mask_2 kq_04_msmall_6 kq_11_mask_3 rfl) rfl rfl rfl (by decide +kernel) ⟨Nat.le_of_ble_eq_true rfl, Nat.le_of_ble_eq_true rfl⟩) hP hD hK hG hZ hS hA rfl hl.1 rfl (Nat.le_of_ble_eq_true rfl) dX6_print_20 ⟨Nat.le_of_ble_eq_true rfl, Nat.le_of_ble_eq_true rfl⟩ (fun I_9 F_10 H locs hq_8 hP hD hS => ?_)
    try dsimp only at hq_8
    have hk11 : mWk I_3 F_4 I_9 F_10 := mWk.look hI5 hq_8
    have hI11 : mIv I_9 F_10 := hI5.go hk11
    have hw11 : mWk _ _ I_9 F_10 := hw5.tr hk11
    have e1611 : I_9 16 = 1 := hq_8.2.2.1
    have hc11 := hI11.hc
    obtain ⟨hsmL, hszL, hrwL⟩ := hI11.hkn (by omega)
    have hbr11 : mBr 4 I_9 F_10 := hbr1.eq (hq_8.2.1.1 37 (by decide)) (hq_8.2.1.2 38 (by decide))
    refine lv_aload_n hx hb dX6_print_23 rfl (lv_at hl 1 rfl) ?_
    refine lv_iconst (v := iz 0) hx hb dX6_print_24 (by decide) ?_
    refine va_put (D := (dC, dI)) (ci := 6) (v := .int (iz 0)) (ty := .int) (C := RX6) (T := TX6) (N := 44) hx hb hts kt_X6 tyX6 tyX6_ok nmX6 hown hK hP hD hS 0 rfl rfl 42 (by decide) (kx_word hG kq_09_mput_9 rfl) (fun _ h9 => h9) rfl (by decide +kernel) rfl rfl (Nat.le_of_ble_eq_true rfl) dX6_print_25 (fun H locs hP hD hS => ?_)
    have hP : va_P (dC, dI) kxCl (mW mo ma cs (va_up I_9 42 0) F_10) H := hP
    have hD : va_D A (mW mo ma cs (va_up I_9 42 0) F_10) := hD
    refine lv_aload_n hx hb dX6_print_28 rfl (lv_at hl 1 rfl) ?_
    refine lv_iconst (v := iz 0) hx hb dX6_print_29 (by decide) ?_
    refine va_put (D := (dC, dI)) (ci := 6) (v := .int (iz 0)) (ty := .boolean) (C := RX6) (T := TX6) (N := 44) hx hb hts kt_X6 tyX6 tyX6_ok nmX6 hown hK hP hD hS 0 rfl rfl 43 (by decide) (kx_word hG kq_09_mput_11 rfl) (fun _ h9 => h9) rfl (by decide +kernel) (mz_bool (Or.inl rfl)).1 (mz_bool (Or.inl rfl)).2 (Nat.le_of_ble_eq_true rfl) dX6_print_30 (fun H locs hP hD hS => ?_)
    have hP : va_P (dC, dI) kxCl (mW mo ma cs (va_up (va_up I_9 42 0) 43 0) F_10) H := hP
    have hD : va_D A (mW mo ma cs (va_up (va_up I_9 42 0) 43 0) F_10) := hD
    refine lv_iconst (v := iz (-1)) hx hb dX6_print_33 (by decide) ?_
    refine lv_istore_n (lv' := [(2, .int (iz (-1))), (1, .int (iz z_1)), (0, .ref mo)]) hx hb dX6_print_34 rfl hl (by decide) rfl (fun ls hl => ?_)
    refine lv_iconst (v := iz 0) hx hb dX6_print_35 (by decide) ?_
    refine lv_istore_n (lv' := [(3, .int (iz 0)), (2, .int (iz (-1))), (1, .int (iz z_1)), (0, .ref mo)]) hx hb dX6_print_36 rfl hl (by decide) rfl (fun ls hl => ?_)
    have hk12 : mWk _ _ (va_up I_9 42 0) F_10 ∧ _ := mWk.u42 hI11
    have hI12 : mIv (va_up I_9 42 0) F_10 := hI11.go hk12.1
    have hw12 : mWk _ _ (va_up I_9 42 0) F_10 := hw11.tr hk12.1
    have e1612 : (va_up I_9 42 0) 16 = _ := hk12.2.1
    have e1912 : (va_up I_9 42 0) 19 = _ := hk12.2.2
    have e112 : (va_up I_9 42 0) 1 = _ := hk12.1.2.1.1 1 (by decide)
    have hbr12 : mBr 4 (va_up I_9 42 0) F_10 := hbr11.eq rfl rfl
    have hk13 : mWk _ _ (va_up (va_up I_9 42 0) 43 0) F_10 ∧ _ := mWk.u43 hI12
    have hI13 : mIv (va_up (va_up I_9 42 0) 43 0) F_10 := hI12.go hk13.1
    have hw13 : mWk _ _ (va_up (va_up I_9 42 0) 43 0) F_10 := hw12.tr hk13.1
    have e1613 : (va_up (va_up I_9 42 0) 43 0) 16 = _ := hk13.2.1
    have e1913 : (va_up (va_up I_9 42 0) 43 0) 19 = _ := hk13.2.2
    have e113 : (va_up (va_up I_9 42 0) 43 0) 1 = _ := hk13.1.2.1.1 1 (by decide)
    have hbr13 : mBr 4 (va_up (va_up I_9 42 0) 43 0) F_10 := hbr12.eq rfl rfl
    have lp37 : ∀ (n : Nat) (gv iv : Int) (J : Nat → Int) (G : Nat → Int → Int), ((mIv J G) ∧ (mWk I F J G) ∧ (J 16 = 1) ∧ (mBr 4 J G) ∧ (-2147483648 ≤ gv ∧ gv < 2147483648) ∧ (0 ≤ iv ∧ iv ≤ 64)) → (J 19 - iv).toNat < n → ∀ (H : Heap) (locs : List Loc), va_P (dC, dI) kxCl (mW mo ma cs J G) H → va_D A (mW mo ma cs J G) → va_S A s.heap H locs → ∀ ls : Array Slot, lv_has ls 5 [(3, .int (iz iv)), (2, .int (iz gv)), (1, .int (iz z_1)), (0, .ref mo)] → W p l e (headSpec [.code yX6_print cX6_print 5 (some .int)] ({ frames := 6, cells := 0, slots := 0, locals := 136 })).room s m ([.ref mo] : List Value).toArray below meth c H locs 0 0 QQ (F0 m 37 ls []) := by
      intro n
      induction n with
      | zero => intro gv iv J G hinv hm; exact absurd hm (Nat.not_lt_zero _)
      | succ n ih37 =>
        intro gv iv J G hinv hm H locs hP hD hS ls hl
        obtain ⟨hIJ, hwJ, h16, hbJ, hgv, hiv⟩ := hinv
        obtain ⟨hsmJ, hszJ, hrwJ⟩ := hIJ.hkn h16
        have hcJ := hIJ.hc
        refine lv_iload_n hx hb dX6_print_37 rfl (lv_at hl 0 rfl) ?_
        refine lv_aload_n hx hb dX6_print_38 rfl (lv_at hl 3 rfl) ?_
        refine va_get (D := (dC, dI)) (ci := 6) (v := .int (iz (J 19))) (C := RX6) (T := TX6) (N := 44) hx hb hts kt_X6 hown hK hP 0 rfl rfl 19 (by decide) (kx_word hG kq_07_mlook_0 rfl) (fun _ h9 => h9) rfl dX6_print_39 ?_
        have hbd_14 := hIJ.hB.1 19
        refine ki_icmp_ge (tgt := 108) hx hb dX6_print_42 (by decide) (by omega) (by omega) (by omega) (by omega) (fun c_15 => ?_) (fun c_15 => ?_)
        · skip
          refine lv_aload_n hx hb dX6_print_108 rfl (lv_at hl 3 rfl) ?_
          refine lv_aload_n hx hb dX6_print_109 rfl (lv_at hl 3 rfl) ?_
          refine va_get (D := (dC, dI)) (ci := 6) (v := .int (iz (J 43))) (C := RX6) (T := TX6) (N := 44) hx hb hts kt_X6 hown hK hP 0 rfl rfl 43 (by decide) (kx_word hG kq_09_mput_11 rfl) (fun _ h9 => h9) rfl dX6_print_110 ?_
          have hbd_16 := hIJ.hB.1 43
          have ho9 : J 43 = 0 ∨ J 43 = 1 := hIJ.hps.1.2.2
          rcases ho9 with ho9 | ho9
          · refine ki_is (show iz (J 43) = iz 0 by rw [ho9]) ?_
            refine lv_iconst (v := iz 0) hx hb dX6_print_113 (by decide) ?_
            refine lv_iconst (v := iz 0) hx hb dX6_print_114 (by decide) ?_
            refine mk_calli (As := [.int (iz 0), .int (iz 0), .int (iz 0)]) (rest := []) ⟨hx, hb, hml, hown, hts⟩ (k_refused0 l dC dI mo ma cs J G  H.size ) (cwV 3 hts (kx_gV kq_04_msmall_8 kq_04_msmall_9 kq_04_msmall_10 kq_04_msmall_6 kq_04_msmall_11 rfl) rfl rfl rfl (by decide +kernel) ⟨Nat.le_of_ble_eq_true rfl, Nat.le_of_ble_eq_true rfl⟩) hP hD hK hG hZ hS hA rfl hl.1 rfl (Nat.le_of_ble_eq_true rfl) dX6_print_115 ⟨Nat.le_of_ble_eq_true rfl, Nat.le_of_ble_eq_true rfl⟩ (fun z_17 I_19 F_20 H locs hq_18 hP hD hS => ?_)
            try dsimp only at hq_18
            obtain ⟨rfl, rfl, rfl⟩ := hq_18
            refine ki_if_eq (tgt := 123) hx hb dX6_print_118 (by decide) (by omega) (by omega) (fun c_21 => ?_) (fun c_21 => ?_)
            · skip
              refine lv_iconst (v := iz 0) hx hb dX6_print_123 (by decide) ?_
              refine lv_istore_n (lv' := [(3, .int (iz 0)), (2, .int (iz gv)), (1, .int (iz z_1)), (0, .ref mo)]) hx hb dX6_print_124 rfl hl (by decide) rfl (fun ls hl => ?_)
              have hk22 : mWk _ _ (va_up J 0 0) G ∧ _ := mWk.thr hIJ (v := 0) (by omega)
              have hI22 : mIv (va_up J 0 0) G := hIJ.go hk22.1
              have hw22 : mWk _ _ (va_up J 0 0) G := hwJ.tr hk22.1
              have e1622 : (va_up J 0 0) 16 = _ := hk22.2.1
              have e1922 : (va_up J 0 0) 19 = _ := hk22.2.2
              have e122 : (va_up J 0 0) 1 = _ := hk22.1.2.1.1 1 (by decide)
              have hbr22 : mBr 4 (va_up J 0 0) G := hbJ.eq rfl rfl
              have lp125 : ∀ (n : Nat) (kv : Int) (G1 : Nat → Int → Int), ((mIv (va_up J 0 0) G1) ∧ (mWk I F (va_up J 0 0) G1) ∧ (0 ≤ kv ∧ kv ≤ 6000)) → ((va_up J 0 0) 42 - kv).toNat < n → ∀ (H : Heap) (locs : List Loc), va_P (dC, dI) kxCl (mW mo ma cs (va_up J 0 0) G1) H → va_D A (mW mo ma cs (va_up J 0 0) G1) → va_S A s.heap H locs → ∀ ls : Array Slot, lv_has ls 5 [(3, .int (iz kv)), (2, .int (iz gv)), (1, .int (iz z_1)), (0, .ref mo)] → W p l e (headSpec [.code yX6_print cX6_print 5 (some .int)] ({ frames := 6, cells := 0, slots := 0, locals := 136 })).room s m ([.ref mo] : List Value).toArray below meth c H locs 0 0 QQ (F0 m 125 ls []) := by
                intro n
                induction n with
                | zero => intro kv G1 hinv hm; exact absurd hm (Nat.not_lt_zero _)
                | succ n ih125 =>
                  intro kv G1 hinv hm H locs hP hD hS ls hl
                  obtain ⟨hIG, hwG, hkv⟩ := hinv
                  have hd9 := hIG.hps.1
                  have hd9a : 0 ≤ (va_up J 0 0) 42 := hd9.1
                  have hd9b : (va_up J 0 0) 42 ≤ 6000 := hd9.2.1
                  refine lv_iload_n hx hb dX6_print_125 rfl (lv_at hl 0 rfl) ?_
                  refine lv_aload_n hx hb dX6_print_126 rfl (lv_at hl 3 rfl) ?_
                  refine va_get (D := (dC, dI)) (ci := 6) (v := .int (iz ((va_up J 0 0) 42))) (C := RX6) (T := TX6) (N := 44) hx hb hts kt_X6 hown hK hP 0 rfl rfl 42 (by decide) (kx_word hG kq_09_mput_9 rfl) (fun _ h9 => h9) rfl dX6_print_127 ?_
                  have hbd_23 := hIG.hB.1 42
                  refine ki_icmp_ge (tgt := 151) hx hb dX6_print_130 (by decide) (by omega) (by omega) (by omega) (by omega) (fun c_24 => ?_) (fun c_24 => ?_)
                  · skip
                    refine lv_aload_n hx hb dX6_print_151 rfl (lv_at hl 3 rfl) ?_
                    refine lv_aload_n hx hb dX6_print_152 rfl (lv_at hl 3 rfl) ?_
                    refine va_get (D := (dC, dI)) (ci := 6) (v := .int (iz ((va_up J 0 0) 42))) (C := RX6) (T := TX6) (N := 44) hx hb hts kt_X6 hown hK hP 0 rfl rfl 42 (by decide) (kx_word hG kq_09_mput_9 rfl) (fun _ h9 => h9) rfl dX6_print_153 ?_
                    refine va_put (D := (dC, dI)) (ci := 6) (v := .int (iz ((va_up J 0 0) 42))) (ty := .int) (C := RX6) (T := TX6) (N := 44) hx hb hts kt_X6 tyX6 tyX6_ok nmX6 hown hK hP hD hS 0 rfl rfl 40 (by decide) (kx_word hG kq_11_mask_12 rfl) (fun _ h9 => h9) rfl (by decide +kernel) rfl rfl (Nat.le_of_ble_eq_true rfl) dX6_print_156 (fun H locs hP hD hS => ?_)
                    have hP : va_P (dC, dI) kxCl (mW mo ma cs (va_up (va_up J 0 0) 40 ((va_up J 0 0) 42)) G1) H := hP
                    have hD : va_D A (mW mo ma cs (va_up (va_up J 0 0) 40 ((va_up J 0 0) 42)) G1) := hD
                    refine lv_aload_n hx hb dX6_print_159 rfl (lv_at hl 3 rfl) ?_
                    refine va_get (D := (dC, dI)) (ci := 6) (v := .int (iz ((va_up J 0 0) 42))) (C := RX6) (T := TX6) (N := 44) hx hb hts kt_X6 hown hK hP 0 rfl rfl 40 (by decide) (kx_word hG kq_11_mask_12 rfl) (fun _ h9 => h9) rfl dX6_print_160 ?_
                    have hk25 : mWk _ _ (va_up (va_up J 0 0) 40 ((va_up J 0 0) 42)) G1 ∧ _ := mWk.u40 hIG
                    have hI25 : mIv (va_up (va_up J 0 0) 40 ((va_up J 0 0) 42)) G1 := hIG.go hk25.1
                    have hw25 : mWk _ _ (va_up (va_up J 0 0) 40 ((va_up J 0 0) 42)) G1 := hwG.tr hk25.1
                    have e1625 : (va_up (va_up J 0 0) 40 ((va_up J 0 0) 42)) 16 = _ := hk25.2.1
                    have e1925 : (va_up (va_up J 0 0) 40 ((va_up J 0 0) 42)) 19 = _ := hk25.2.2
                    have e125 : (va_up (va_up J 0 0) 40 ((va_up J 0 0) 42)) 1 = _ := hk25.1.2.1.1 1 (by decide)
                    rw [← hQe]
                    exact mk_ireti hx hb hr hlocks hP hD hK hS dX6_print_163 hw25
                  · skip
                    refine lv_aload_n hx hb dX6_print_133 rfl (lv_at hl 3 rfl) ?_
                    refine va_get (D := (dC, dI)) (ci := 6) (v := .ref (ma 39)) (C := RX6) (T := TX6) (N := 44) hx hb hts kt_X6 hown hK hP 0 rfl rfl 39 (by decide) (kx_word hG kq_11_mask_13 rfl) (fun _ h9 => h9) rfl dX6_print_134 ?_
                    refine lv_iload_n hx hb dX6_print_137 rfl (lv_at hl 0 rfl) ?_
                    refine lv_aload_n hx hb dX6_print_138 rfl (lv_at hl 3 rfl) ?_
                    refine va_get (D := (dC, dI)) (ci := 6) (v := .ref (ma 41)) (C := RX6) (T := TX6) (N := 44) hx hb hts kt_X6 hown hK hP 0 rfl rfl 41 (by decide) (kx_word hG kq_09_mput_10 rfl) (fun _ h9 => h9) rfl dX6_print_139 ?_
                    refine lv_iload_n hx hb dX6_print_142 rfl (lv_at hl 0 rfl) ?_
                    refine ki_bald (F := G1 41) hx hb hK hP 28 27 rfl rfl (by omega) (by omega) (by decide) dX6_print_143 ?_
                    have hbd_26 := hIG.hB.2 41 kv
                    refine ki_bast (F := G1 39) hx hb hK hP hD hS 27 26 rfl rfl (by omega) (by omega) (by decide) dX6_print_144 (fun H locs hP hD hS => ?_)
                    have hP : va_P (dC, dI) kxCl (mW mo ma cs (va_up J 0 0) (va_up G1 39 (upI (G1 39) kv (vp_nar .byte (iz (G1 41 kv))).toInt))) H := hP
                    have hD : va_D A (mW mo ma cs (va_up J 0 0) (va_up G1 39 (upI (G1 39) kv (vp_nar .byte (iz (G1 41 kv))).toInt))) := hD
                    refine lv_iinc (v := iz (kv + 1)) (lv' := [(3, .int (iz (kv + 1))), (2, .int (iz gv)), (1, .int (iz z_1)), (0, .ref mo)]) hx hb dX6_print_145 hl (k := 0) rfl (iz_add kv 1) (by decide) rfl (fun ls hl => ?_)
                    refine lv_goto (tgt := 125) hx hb dX6_print_148 (by decide) ?_
                    have hk27 : mWk _ _ (va_up J 0 0) (va_up G1 39 (upI (G1 39) kv (vp_nar .byte (iz (G1 41 kv))).toInt)) ∧ _ := mWk.u39 hIG kv (iz_lo _) (iz_hi _)
                    have hI27 : mIv (va_up J 0 0) (va_up G1 39 (upI (G1 39) kv (vp_nar .byte (iz (G1 41 kv))).toInt)) := hIG.go hk27.1
                    have hw27 : mWk _ _ (va_up J 0 0) (va_up G1 39 (upI (G1 39) kv (vp_nar .byte (iz (G1 41 kv))).toInt)) := hwG.tr hk27.1
                    exact ih125 (kv + 1) (va_up G1 39 (upI (G1 39) kv (vp_nar .byte (iz (G1 41 kv))).toInt)) ⟨hI27, hw27, by omega⟩ (by omega) _ _ hP hD hS ls (lv_sub hl [0, 1, 2, 3] rfl)
              exact lp125 _ 0 G ⟨hI22, hw22, by omega⟩ (Nat.lt_succ_self _) _ _ hP hD hS ls (lv_sub hl [0, 1, 2, 3] rfl)
            · omega
          · refine ki_is (show iz (J 43) = iz 1 by rw [ho9]) ?_
            refine lv_iconst (v := iz 0) hx hb dX6_print_113 (by decide) ?_
            refine lv_iconst (v := iz 0) hx hb dX6_print_114 (by decide) ?_
            refine mk_calli (As := [.int (iz 1), .int (iz 0), .int (iz 0)]) (rest := []) ⟨hx, hb, hml, hown, hts⟩ (k_refused1 l dC dI mo ma cs J G 0 0 H.size (by omega) (by omega) (by omega) (by omega)) (cwV 3 hts (kx_gV kq_04_msmall_8 kq_04_msmall_9 kq_04_msmall_10 kq_04_msmall_6 kq_04_msmall_11 rfl) rfl rfl rfl (by decide +kernel) ⟨Nat.le_of_ble_eq_true rfl, Nat.le_of_ble_eq_true rfl⟩) hP hD hK hG hZ hS hA rfl hl.1 rfl (Nat.le_of_ble_eq_true rfl) dX6_print_115 ⟨Nat.le_of_ble_eq_true rfl, Nat.le_of_ble_eq_true rfl⟩ (fun z_28 I_30 F_31 H locs hq_29 hP hD hS => ?_)
            try dsimp only at hq_29
            obtain ⟨rfl, rfl, rfl⟩ := hq_29
            refine ki_if_eq (tgt := 123) hx hb dX6_print_118 (by decide) (by omega) (by omega) (fun c_32 => ?_) (fun c_32 => ?_)
            · omega
            · skip
              refine lv_iconst (v := iz 0) hx hb dX6_print_121 (by decide) ?_
              have hk33 : mWk _ _ (va_up J 0 1) G ∧ _ := mWk.thr hIJ (v := 1) (by omega)
              have hI33 : mIv (va_up J 0 1) G := hIJ.go hk33.1
              have hw33 : mWk _ _ (va_up J 0 1) G := hwJ.tr hk33.1
              have e1633 : (va_up J 0 1) 16 = _ := hk33.2.1
              have e1933 : (va_up J 0 1) 19 = _ := hk33.2.2
              have e133 : (va_up J 0 1) 1 = _ := hk33.1.2.1.1 1 (by decide)
              have hbr33 : mBr 4 (va_up J 0 1) G := hbJ.eq rfl rfl
              rw [← hQe]
              exact mk_ireti hx hb hr hlocks hP hD hK hS dX6_print_122 hw33
        · skip
          have hrw9 := hrwJ iv (by omega) (by omega)
          refine lv_aload_n hx hb dX6_print_45 rfl (lv_at hl 3 rfl) ?_
          refine va_get (D := (dC, dI)) (ci := 6) (v := .ref (ma 18)) (C := RX6) (T := TX6) (N := 44) hx hb hts kt_X6 hown hK hP 0 rfl rfl 18 (by decide) (kx_word hG kq_07_mlook_1 rfl) (fun _ h9 => h9) rfl dX6_print_46 ?_
          refine lv_iload_n hx hb dX6_print_49 rfl (lv_at hl 0 rfl) ?_
          refine ki_iald (F := G 18) hx hb hK hP 14 13 rfl rfl (by omega) (by omega) (by decide) dX6_print_50 ?_
          have hbd_34 := hIJ.hB.2 18 iv
          refine lv_istore (lv' := [(4, .int (iz (G 18 iv))), (3, .int (iz iv)), (2, .int (iz gv)), (1, .int (iz z_1)), (0, .ref mo)]) hx hb dX6_print_51 hl (by decide) rfl (fun ls hl => ?_)
          have hlv9 := hIJ.hlv (G 18 iv) (by omega) (by omega)
          refine lv_aload_n hx hb dX6_print_53 rfl (lv_at hl 4 rfl) ?_
          refine va_get (D := (dC, dI)) (ci := 6) (v := .ref (ma 2)) (C := RX6) (T := TX6) (N := 44) hx hb hts kt_X6 hown hK hP 0 rfl rfl 2 (by decide) (kx_word hG kq_04_msmall_12 rfl) (fun _ h9 => h9) rfl dX6_print_54 ?_
          refine lv_iload hx hb dX6_print_57 (lv_at hl 0 rfl) ?_
          refine ki_iald (F := G 2) hx hb hK hP 1 0 rfl rfl (by omega) (by omega) (by decide) dX6_print_59 ?_
          have hbd_35 := hIJ.hB.2 2 (G 18 iv)
          refine ki_if_ne (tgt := 87) hx hb dX6_print_60 (by decide) (by omega) (by omega) (fun c_36 => ?_) (fun c_36 => ?_)
          · skip
            refine lv_aload_n hx hb dX6_print_87 rfl (lv_at hl 4 rfl) ?_
            refine lv_iconst (v := iz 1) hx hb dX6_print_88 (by decide) ?_
            refine lv_aload_n hx hb dX6_print_89 rfl (lv_at hl 4 rfl) ?_
            refine va_get (D := (dC, dI)) (ci := 6) (v := .ref (ma 2)) (C := RX6) (T := TX6) (N := 44) hx hb hts kt_X6 hown hK hP 0 rfl rfl 2 (by decide) (kx_word hG kq_04_msmall_12 rfl) (fun _ h9 => h9) rfl dX6_print_90 ?_
            refine lv_iload hx hb dX6_print_93 (lv_at hl 0 rfl) ?_
            refine ki_iald (F := G 2) hx hb hK hP 1 0 rfl rfl (by omega) (by omega) (by decide) dX6_print_95 ?_
            refine ki_iadd hx hb dX6_print_96 ?_
            refine lv_iload hx hb dX6_print_97 (lv_at hl 0 rfl) ?_
            refine mk_callv (As := [.int (iz (1 + (G 2 (G 18 iv)))), .int (iz (G 18 iv))]) (rest := []) ⟨hx, hb, hml, hown, hts⟩ (k_putPart l dC dI mo ma cs J G (1 + (G 2 (G 18 iv))) (G 18 iv) H.size hIJ.hB hIJ.hc hIJ.hn hIJ.hln hIJ.hmy hIJ.hmf hIJ.hlv (hIJ.hkn (by omega)).1 hIJ.hse hIJ.hsu hIJ.hst hbJ hIJ.hps (by omega) (by omega)) (cwV 2 hts (kx_gV kq_11_mask_14 kq_11_mask_15 kq_11_mask_16 kq_04_msmall_6 kq_11_mask_17 rfl) rfl rfl rfl (by decide +kernel) ⟨Nat.le_of_ble_eq_true rfl, Nat.le_of_ble_eq_true rfl⟩) hP hD hK hG hZ hS hA rfl hl.1 rfl (Nat.le_of_ble_eq_true rfl) dX6_print_99 ⟨Nat.le_of_ble_eq_true rfl, Nat.le_of_ble_eq_true rfl⟩ (fun I_39 F_40 H locs hq_38 hP hD hS => ?_)
            try dsimp only at hq_38
            have hk41 : mWk J G I_39 F_40 ∧ _ := mWk.part hIJ hq_38
            have hI41 : mIv I_39 F_40 := hIJ.go hk41.1
            have hw41 : mWk _ _ I_39 F_40 := hwJ.tr hk41.1
            have e1641 := hk41.2.1
            have e1941 := hk41.2.2
            have f241 := congrFun (hk41.1.2.1.2 2 (by decide)) (G 18 iv)
            have hc41 := hI41.hc
            have hx41a := hk41.1.2.1.1 1 (by decide)
            have hbr42 : mBr 4 I_39 F_40 := hbJ.kp hq_38.2.1 (by decide)
            refine lv_iinc (v := iz (iv + 1)) (lv' := [(3, .int (iz (iv + 1))), (4, .int (iz (G 18 iv))), (2, .int (iz gv)), (1, .int (iz z_1)), (0, .ref mo)]) hx hb dX6_print_102 hl (k := 1) rfl (iz_add iv 1) (by decide) rfl (fun ls hl => ?_)
            refine lv_goto (tgt := 37) hx hb dX6_print_105 (by decide) ?_
            exact ih37 gv (iv + 1) I_39 F_40 ⟨hI41, hw41, by omega, hbr42, by omega, by omega⟩ (by omega) _ _ hP hD hS ls (lv_sub hl [0, 2, 3, 4] rfl)
          · skip
            refine lv_aload_n hx hb dX6_print_63 rfl (lv_at hl 4 rfl) ?_
            refine lv_iload hx hb dX6_print_64 (lv_at hl 0 rfl) ?_
            refine mk_calli (As := [.int (iz (G 18 iv))]) (rest := []) ⟨hx, hb, hml, hown, hts⟩ (k_groupOf l dC dI mo ma cs J G (G 18 iv) H.size hIJ.hB hIJ.hc hIJ.hn hIJ.hlv (hIJ.hkn (by omega)).1 (by omega)) (cwV 1 hts (kx_gV kq_10_mprint_28 kq_10_mprint_29 kq_10_mprint_30 kq_04_msmall_6 kq_10_mprint_31 rfl) rfl rfl rfl (by decide +kernel) ⟨Nat.le_of_ble_eq_true rfl, Nat.le_of_ble_eq_true rfl⟩) hP hD hK hG hZ hS hA rfl hl.1 rfl (Nat.le_of_ble_eq_true rfl) dX6_print_66 ⟨Nat.le_of_ble_eq_true rfl, Nat.le_of_ble_eq_true rfl⟩ (fun z_43 I_45 F_46 H locs hq_44 hP hD hS => ?_)
            try dsimp only at hq_44
            have hk47 : mWk J G I_45 F_46 ∧ _ := mWk.scr hIJ hq_44.1 hq_44.2.1 hq_44.2.2.1
            have hI47 : mIv I_45 F_46 := hIJ.go hk47.1
            have hw47 : mWk _ _ I_45 F_46 := hwJ.tr hk47.1
            have e1647 := hk47.2.1
            have e1947 := hk47.2.2
            have f247 := congrFun (hk47.1.2.1.2 2 (by decide)) (G 18 iv)
            have hc47 := hI47.hc
            have hx47a := hk47.1.2.1.1 1 (by decide)
            have hrg_48 := hq_44.2.2.2
            have hbr48x : mBr 4 I_45 F_46 := hbJ.eq (congrFun hq_44.1.symm 37) (hq_44.2.2.1.2 38 (by decide))
            refine lv_iload_n hx hb dX6_print_69 rfl (lv_at hl 2 rfl) ?_
            refine ki_icmp_eq (tgt := 87) hx hb dX6_print_70 (by decide) (by omega) (by omega) (by omega) (by omega) (fun c_49 => ?_) (fun c_49 => ?_)
            · skip
              refine lv_aload_n hx hb dX6_print_87 rfl (lv_at hl 4 rfl) ?_
              refine lv_iconst (v := iz 1) hx hb dX6_print_88 (by decide) ?_
              refine lv_aload_n hx hb dX6_print_89 rfl (lv_at hl 4 rfl) ?_
              refine va_get (D := (dC, dI)) (ci := 6) (v := .ref (ma 2)) (C := RX6) (T := TX6) (N := 44) hx hb hts kt_X6 hown hK hP 0 rfl rfl 2 (by decide) (kx_word hG kq_04_msmall_12 rfl) (fun _ h9 => h9) rfl dX6_print_90 ?_
              refine lv_iload hx hb dX6_print_93 (lv_at hl 0 rfl) ?_
              refine ki_iald (F := F_46 2) hx hb hK hP 1 0 rfl rfl (by omega) (by omega) (by decide) dX6_print_95 ?_
              have hbd_50 := hI47.hB.2 2 (G 18 iv)
              refine ki_iadd hx hb dX6_print_96 ?_
              refine lv_iload hx hb dX6_print_97 (lv_at hl 0 rfl) ?_
              refine mk_callv (As := [.int (iz (1 + (F_46 2 (G 18 iv)))), .int (iz (G 18 iv))]) (rest := []) ⟨hx, hb, hml, hown, hts⟩ (k_putPart l dC dI mo ma cs I_45 F_46 (1 + (F_46 2 (G 18 iv))) (G 18 iv) H.size hI47.hB hI47.hc hI47.hn hI47.hln hI47.hmy hI47.hmf hI47.hlv (hI47.hkn (by omega)).1 hI47.hse hI47.hsu hI47.hst hbr48x hI47.hps (by omega) (by omega)) (cwV 2 hts (kx_gV kq_11_mask_14 kq_11_mask_15 kq_11_mask_16 kq_04_msmall_6 kq_11_mask_17 rfl) rfl rfl rfl (by decide +kernel) ⟨Nat.le_of_ble_eq_true rfl, Nat.le_of_ble_eq_true rfl⟩) hP hD hK hG hZ hS hA rfl hl.1 rfl (Nat.le_of_ble_eq_true rfl) dX6_print_99 ⟨Nat.le_of_ble_eq_true rfl, Nat.le_of_ble_eq_true rfl⟩ (fun I_53 F_54 H locs hq_52 hP hD hS => ?_)
              try dsimp only at hq_52
              have hk55 : mWk I_45 F_46 I_53 F_54 ∧ _ := mWk.part hI47 hq_52
              have hI55 : mIv I_53 F_54 := hI47.go hk55.1
              have hw55 : mWk _ _ I_53 F_54 := hw47.tr hk55.1
              have e1655 := hk55.2.1
              have e1955 := hk55.2.2
              have f255 := congrFun (hk55.1.2.1.2 2 (by decide)) (G 18 iv)
              have hc55 := hI55.hc
              have hx55a := hk55.1.2.1.1 1 (by decide)
              have hbr56 : mBr 4 I_53 F_54 := hbr48x.kp hq_52.2.1 (by decide)
              refine lv_iinc (v := iz (iv + 1)) (lv' := [(3, .int (iz (iv + 1))), (4, .int (iz (G 18 iv))), (2, .int (iz gv)), (1, .int (iz z_1)), (0, .ref mo)]) hx hb dX6_print_102 hl (k := 1) rfl (iz_add iv 1) (by decide) rfl (fun ls hl => ?_)
              refine lv_goto (tgt := 37) hx hb dX6_print_105 (by decide) ?_
              exact ih37 gv (iv + 1) I_53 F_54 ⟨hI55, hw55, by omega, hbr56, by omega, by omega⟩ (by omega) _ _ hP hD hS ls (lv_sub hl [0, 2, 3, 4] rfl)
            · skip
              refine lv_aload_n hx hb dX6_print_73 rfl (lv_at hl 4 rfl) ?_
              refine lv_iload hx hb dX6_print_74 (lv_at hl 0 rfl) ?_
              refine mk_calli (As := [.int (iz (G 18 iv))]) (rest := []) ⟨hx, hb, hml, hown, hts⟩ (k_groupOf l dC dI mo ma cs I_45 F_46 (G 18 iv) H.size hI47.hB hI47.hc hI47.hn hI47.hlv (hI47.hkn (by omega)).1 (by omega)) (cwV 1 hts (kx_gV kq_10_mprint_28 kq_10_mprint_29 kq_10_mprint_30 kq_04_msmall_6 kq_10_mprint_31 rfl) rfl rfl rfl (by decide +kernel) ⟨Nat.le_of_ble_eq_true rfl, Nat.le_of_ble_eq_true rfl⟩) hP hD hK hG hZ hS hA rfl hl.1 rfl (Nat.le_of_ble_eq_true rfl) dX6_print_76 ⟨Nat.le_of_ble_eq_true rfl, Nat.le_of_ble_eq_true rfl⟩ (fun z_57 I_59 F_60 H locs hq_58 hP hD hS => ?_)
              try dsimp only at hq_58
              have hk61 : mWk I_45 F_46 I_59 F_60 ∧ _ := mWk.scr hI47 hq_58.1 hq_58.2.1 hq_58.2.2.1
              have hI61 : mIv I_59 F_60 := hI47.go hk61.1
              have hw61 : mWk _ _ I_59 F_60 := hw47.tr hk61.1
              have e1661 := hk61.2.1
              have e1961 := hk61.2.2
              have f261 := congrFun (hk61.1.2.1.2 2 (by decide)) (G 18 iv)
              have hc61 := hI61.hc
              have hx61a := hk61.1.2.1.1 1 (by decide)
              have hrg_62 := hq_58.2.2.2
              have hbr62x : mBr 4 I_59 F_60 := hbr48x.eq (congrFun hq_58.1.symm 37) (hq_58.2.2.1.2 38 (by decide))
              refine lv_istore_n (lv' := [(2, .int (iz z_57)), (4, .int (iz (G 18 iv))), (3, .int (iz iv)), (1, .int (iz z_1)), (0, .ref mo)]) hx hb dX6_print_79 rfl hl (by decide) rfl (fun ls hl => ?_)
              refine lv_aload_n hx hb dX6_print_80 rfl (lv_at hl 4 rfl) ?_
              refine lv_iconst (v := iz 0) hx hb dX6_print_81 (by decide) ?_
              refine lv_iload hx hb dX6_print_82 (lv_at hl 1 rfl) ?_
              refine mk_callv (As := [.int (iz 0), .int (iz (G 18 iv))]) (rest := []) ⟨hx, hb, hml, hown, hts⟩ (k_putPart l dC dI mo ma cs I_59 F_60 0 (G 18 iv) H.size hI61.hB hI61.hc hI61.hn hI61.hln hI61.hmy hI61.hmf hI61.hlv (hI61.hkn (by omega)).1 hI61.hse hI61.hsu hI61.hst hbr62x hI61.hps (by omega) (by omega)) (cwV 2 hts (kx_gV kq_11_mask_14 kq_11_mask_15 kq_11_mask_16 kq_04_msmall_6 kq_11_mask_17 rfl) rfl rfl rfl (by decide +kernel) ⟨Nat.le_of_ble_eq_true rfl, Nat.le_of_ble_eq_true rfl⟩) hP hD hK hG hZ hS hA rfl hl.1 rfl (Nat.le_of_ble_eq_true rfl) dX6_print_84 ⟨Nat.le_of_ble_eq_true rfl, Nat.le_of_ble_eq_true rfl⟩ (fun I_65 F_66 H locs hq_64 hP hD hS => ?_)
              try dsimp only at hq_64
              have hk67 : mWk I_59 F_60 I_65 F_66 ∧ _ := mWk.part hI61 hq_64
              have hI67 : mIv I_65 F_66 := hI61.go hk67.1
              have hw67 : mWk _ _ I_65 F_66 := hw61.tr hk67.1
              have e1667 := hk67.2.1
              have e1967 := hk67.2.2
              have f267 := congrFun (hk67.1.2.1.2 2 (by decide)) (G 18 iv)
              have hc67 := hI67.hc
              have hx67a := hk67.1.2.1.1 1 (by decide)
              have hbr68 : mBr 4 I_65 F_66 := hbr62x.kp hq_64.2.1 (by decide)
              refine lv_aload_n hx hb dX6_print_87 rfl (lv_at hl 4 rfl) ?_
              refine lv_iconst (v := iz 1) hx hb dX6_print_88 (by decide) ?_
              refine lv_aload_n hx hb dX6_print_89 rfl (lv_at hl 4 rfl) ?_
              refine va_get (D := (dC, dI)) (ci := 6) (v := .ref (ma 2)) (C := RX6) (T := TX6) (N := 44) hx hb hts kt_X6 hown hK hP 0 rfl rfl 2 (by decide) (kx_word hG kq_04_msmall_12 rfl) (fun _ h9 => h9) rfl dX6_print_90 ?_
              refine lv_iload hx hb dX6_print_93 (lv_at hl 1 rfl) ?_
              refine ki_iald (F := F_66 2) hx hb hK hP 1 0 rfl rfl (by omega) (by omega) (by decide) dX6_print_95 ?_
              have hbd_69 := hI67.hB.2 2 (G 18 iv)
              refine ki_iadd hx hb dX6_print_96 ?_
              refine lv_iload hx hb dX6_print_97 (lv_at hl 1 rfl) ?_
              refine mk_callv (As := [.int (iz (1 + (F_66 2 (G 18 iv)))), .int (iz (G 18 iv))]) (rest := []) ⟨hx, hb, hml, hown, hts⟩ (k_putPart l dC dI mo ma cs I_65 F_66 (1 + (F_66 2 (G 18 iv))) (G 18 iv) H.size hI67.hB hI67.hc hI67.hn hI67.hln hI67.hmy hI67.hmf hI67.hlv (hI67.hkn (by omega)).1 hI67.hse hI67.hsu hI67.hst hbr68 hI67.hps (by omega) (by omega)) (cwV 2 hts (kx_gV kq_11_mask_14 kq_11_mask_15 kq_11_mask_16 kq_04_msmall_6 kq_11_mask_17 rfl) rfl rfl rfl (by decide +kernel) ⟨Nat.le_of_ble_eq_true rfl, Nat.le_of_ble_eq_true rfl⟩) hP hD hK hG hZ hS hA rfl hl.1 rfl (Nat.le_of_ble_eq_true rfl) dX6_print_99 ⟨Nat.le_of_ble_eq_true rfl, Nat.le_of_ble_eq_true rfl⟩ (fun I_72 F_73 H locs hq_71 hP hD hS => ?_)
              try dsimp only at hq_71
              have hk74 : mWk I_65 F_66 I_72 F_73 ∧ _ := mWk.part hI67 hq_71
              have hI74 : mIv I_72 F_73 := hI67.go hk74.1
              have hw74 : mWk _ _ I_72 F_73 := hw67.tr hk74.1
              have e1674 := hk74.2.1
              have e1974 := hk74.2.2
              have f274 := congrFun (hk74.1.2.1.2 2 (by decide)) (G 18 iv)
              have hc74 := hI74.hc
              have hx74a := hk74.1.2.1.1 1 (by decide)
              have hbr75 : mBr 4 I_72 F_73 := hbr68.kp hq_71.2.1 (by decide)
              refine lv_iinc (v := iz (iv + 1)) (lv' := [(3, .int (iz (iv + 1))), (2, .int (iz z_57)), (4, .int (iz (G 18 iv))), (1, .int (iz z_1)), (0, .ref mo)]) hx hb dX6_print_102 hl (k := 2) rfl (iz_add iv 1) (by decide) rfl (fun ls hl => ?_)
              refine lv_goto (tgt := 37) hx hb dX6_print_105 (by decide) ?_
              exact ih37 z_57 (iv + 1) I_72 F_73 ⟨hI74, hw74, by omega, hbr75, by omega, by omega⟩ (by omega) _ _ hP hD hS ls (lv_sub hl [0, 1, 3, 4] rfl)
    exact lp37 _ (-1) 0 (va_up (va_up I_9 42 0) 43 0) F_10 ⟨hI13, hw13, by omega, hbr13, by omega, by omega⟩ (Nat.lt_succ_self _) _ _ hP hD hS ls (lv_sub hl [0, 1, 2, 3] rfl)
  · skip
    refine lv_aload_n hx hb dX6_print_10 rfl (lv_at hl 1 rfl) ?_
    refine lv_iconst (v := iz 0) hx hb dX6_print_11 (by decide) ?_
    refine va_put (D := (dC, dI)) (ci := 6) (v := .int (iz 0)) (ty := .int) (C := RX6) (T := TX6) (N := 44) hx hb hts kt_X6 tyX6 tyX6_ok nmX6 hown hK hP hD hS 0 rfl rfl 0 (by decide) (kx_word hG kq_04_msmall_0 rfl) (fun _ h9 => h9) rfl (by decide +kernel) rfl rfl (Nat.le_of_ble_eq_true rfl) dX6_print_12 (fun H locs hP hD hS => ?_)
    have hP : va_P (dC, dI) kxCl (mW mo ma cs (va_up I_3 0 0) F_4) H := hP
    have hD : va_D A (mW mo ma cs (va_up I_3 0 0) F_4) := hD
    refine lv_iconst (v := iz (-1)) hx hb dX6_print_15 (by decide) ?_
    refine lv_iload_n hx hb dX6_print_16 rfl (lv_at hl 0 rfl) ?_
    refine ki_isub hx hb dX6_print_17 ?_
    have hk76 : mWk _ _ (va_up I_3 0 0) F_4 ∧ _ := mWk.thr hI5 (v := 0) (by omega)
    have hI76 : mIv (va_up I_3 0 0) F_4 := hI5.go hk76.1
    have hw76 : mWk _ _ (va_up I_3 0 0) F_4 := hw5.tr hk76.1
    have e1676 : (va_up I_3 0 0) 16 = _ := hk76.2.1
    have e1976 : (va_up I_3 0 0) 19 = _ := hk76.2.2
    have e176 : (va_up I_3 0 0) 1 = _ := hk76.1.2.1.1 1 (by decide)
    rw [← hQe]
    exact mk_ireti hx hb hr hlocks hP hD hK hS dX6_print_18 hw76
set_option maxHeartbeats 4000000 in
set_option maxRecDepth 100000 in
theorem k_at (l : Launch) (dC : Nat → ClassId) (dI : Nat → Nat → Nat) (mo : Nat) (ma : Nat → Nat) (cs : Nat → ClassId) (I : Nat → Int) (F : Nat → Int → Int) (p0 : Int) (sz : Nat) (hI : mIv I F) (hp01 : -2147483648 ≤ p0) (hp02 : p0 < 2147483648) : mMi l yX6_at (.code yX6_at cX6_at 2 (some .int)) 1 23 dC dI mo ma cs I F [.ref mo, .int (iz p0)] sz (fun (r : Int) (I' : Nat → Int) (F' : Nat → Int → Int) => mWk I F I' F') := by
  refine Met.ofW (cc := cX6_at) (maxL := 2) (ret := (some .int)) (by decide) rfl ?_
  intro p e s m args below meth c s₁ B hml hv
  obtain ⟨rfl, hsz, hP, hK, hD0, hG, hZ⟩ := hv
  have hx := B.exec
  have hb := B.bytes
  have hr := B.returns
  have hts := kx_hts (a := ([.ref mo, .int (iz p0)] : List Value).toArray) hG
  have hown : s.vm.findClass RX6 = some m.cls := findClass_of_methodNamed B.named
  have hlocks := B.notSynchronized
  subst hsz
  have hD := hD0.self (sz := s.heap.size)
  generalize hAe : va_A (mW mo ma cs I F) s.heap.size = A at hD hZ ⊢
  have hA : ∀ q : Nat, s.heap.size ≤ q → A q := fun q h => by rw [← hAe]; exact Or.inr h
  have hS : va_S A s.heap s.heap [] := va_S.rf
  have hl := lv_entry ([.ref mo, .int (iz p0)]) (n := 2) (Nat.le_of_ble_eq_true rfl)
  rw [lg_entry_eq]
  generalize (lg_sl ([.ref mo, .int (iz p0)]) ++ List.replicate (2 - (lg_sl ([.ref mo, .int (iz p0)])).length) Slot.unset).toArray = ls at hl ⊢
  have hl : lv_has ls 2 [(0, .ref mo), (1, .int (iz p0))] := hl
  have hW0 : mWk I F I F := mWk.rf hI
  have hc0 := hI.hc
  have hm0 := hI.hmd
  refine lv_aload_n hx hb dX6_at_0 rfl (lv_at hl 0 rfl) ?_
  refine lv_iload_n hx hb dX6_at_1 rfl (lv_at hl 1 rfl) ?_
  refine ki_if_lt (tgt := 13) hx hb dX6_at_2 (by decide) (by omega) (by omega) (fun c_1 => ?_) (fun c_1 => ?_)
  · skip
    refine lv_iconst (v := iz 1) hx hb dX6_at_13 (by decide) ?_
    refine lv_goto (tgt := 18) hx hb dX6_at_14 (by decide) ?_
    refine lv_iconst (v := iz 0) hx hb dX6_at_18 (by decide) ?_
    refine lv_iconst (v := iz 0) hx hb dX6_at_19 (by decide) ?_
    refine mk_calli (As := [.int (iz 1), .int (iz 0), .int (iz 0)]) (rest := []) ⟨hx, hb, hml, hown, hts⟩ (k_refused1 l dC dI mo ma cs I F 0 0 s.heap.size (by omega) (by omega) (by omega) (by omega)) (cwV 3 hts (kx_gV kq_04_msmall_8 kq_04_msmall_9 kq_04_msmall_10 kq_04_msmall_6 kq_04_msmall_11 rfl) rfl rfl rfl (by decide +kernel) ⟨Nat.le_of_ble_eq_true rfl, Nat.le_of_ble_eq_true rfl⟩) hP hD hK hG hZ hS hA rfl hl.1 rfl (Nat.le_of_ble_eq_true rfl) dX6_at_20 ⟨Nat.le_of_ble_eq_true rfl, Nat.le_of_ble_eq_true rfl⟩ (fun z_2 I_4 F_5 H locs hq_3 hP hD hS => ?_)
    try dsimp only at hq_3
    obtain ⟨rfl, rfl, rfl⟩ := hq_3
    refine ki_if_eq (tgt := 30) hx hb dX6_at_23 (by decide) (by omega) (by omega) (fun c_6 => ?_) (fun c_6 => ?_)
    · omega
    · skip
      refine lv_iconst (v := iz 0) hx hb dX6_at_26 (by decide) ?_
      refine lv_goto (tgt := 40) hx hb dX6_at_27 (by decide) ?_
      have hk7 : mWk _ _ (va_up I 0 1) F ∧ _ := mWk.thr hI (v := 1) (by omega)
      have hI7 : mIv (va_up I 0 1) F := hI.go hk7.1
      have hw7 : mWk _ _ (va_up I 0 1) F := hW0.tr hk7.1
      have e167 : (va_up I 0 1) 16 = _ := hk7.2.1
      have e197 : (va_up I 0 1) 19 = _ := hk7.2.2
      have e17 : (va_up I 0 1) 1 = _ := hk7.1.2.1.1 1 (by decide)
      exact mk_ireti hx hb hr hlocks hP hD hK hS dX6_at_40 hw7
  · skip
    refine lv_iload_n hx hb dX6_at_5 rfl (lv_at hl 1 rfl) ?_
    refine lv_aload_n hx hb dX6_at_6 rfl (lv_at hl 0 rfl) ?_
    refine va_get (D := (dC, dI)) (ci := 6) (v := .int (iz (I 40))) (C := RX6) (T := TX6) (N := 44) hx hb hts kt_X6 hown hK hP 0 rfl rfl 40 (by decide) (kx_word hG kq_11_mask_12 rfl) (fun _ h9 => h9) rfl dX6_at_7 ?_
    have hbd_8 := hI.hB.1 40
    refine ki_icmp_lt (tgt := 17) hx hb dX6_at_10 (by decide) (by omega) (by omega) (by omega) (by omega) (fun c_9 => ?_) (fun c_9 => ?_)
    · skip
      refine lv_iconst (v := iz 0) hx hb dX6_at_17 (by decide) ?_
      refine lv_iconst (v := iz 0) hx hb dX6_at_18 (by decide) ?_
      refine lv_iconst (v := iz 0) hx hb dX6_at_19 (by decide) ?_
      refine mk_calli (As := [.int (iz 0), .int (iz 0), .int (iz 0)]) (rest := []) ⟨hx, hb, hml, hown, hts⟩ (k_refused0 l dC dI mo ma cs I F  s.heap.size ) (cwV 3 hts (kx_gV kq_04_msmall_8 kq_04_msmall_9 kq_04_msmall_10 kq_04_msmall_6 kq_04_msmall_11 rfl) rfl rfl rfl (by decide +kernel) ⟨Nat.le_of_ble_eq_true rfl, Nat.le_of_ble_eq_true rfl⟩) hP hD hK hG hZ hS hA rfl hl.1 rfl (Nat.le_of_ble_eq_true rfl) dX6_at_20 ⟨Nat.le_of_ble_eq_true rfl, Nat.le_of_ble_eq_true rfl⟩ (fun z_10 I_12 F_13 H locs hq_11 hP hD hS => ?_)
      try dsimp only at hq_11
      obtain ⟨rfl, rfl, rfl⟩ := hq_11
      refine ki_if_eq (tgt := 30) hx hb dX6_at_23 (by decide) (by omega) (by omega) (fun c_14 => ?_) (fun c_14 => ?_)
      · skip
        refine lv_aload_n hx hb dX6_at_30 rfl (lv_at hl 0 rfl) ?_
        refine va_get (D := (dC, dI)) (ci := 6) (v := .ref (ma 39)) (C := RX6) (T := TX6) (N := 44) hx hb hts kt_X6 hown hK hP 0 rfl rfl 39 (by decide) (kx_word hG kq_11_mask_13 rfl) (fun _ h9 => h9) rfl dX6_at_31 ?_
        refine lv_iload_n hx hb dX6_at_34 rfl (lv_at hl 1 rfl) ?_
        refine ki_bald (F := F 39) hx hb hK hP 27 26 rfl rfl (by omega) (by omega) (by decide) dX6_at_35 ?_
        have hbd_15 := hI.hB.2 39 p0
        refine lv_sipush (v := iz 255) hx hb dX6_at_36 (by decide) ?_
        refine lv_iand hx hb dX6_at_39 ?_
        refine ki_any (fun z_16 hz_16a hz_16b => ?_)
        have hk17 : mWk _ _ (va_up I 0 0) F ∧ _ := mWk.thr hI (v := 0) (by omega)
        have hI17 : mIv (va_up I 0 0) F := hI.go hk17.1
        have hw17 : mWk _ _ (va_up I 0 0) F := hW0.tr hk17.1
        have e1617 : (va_up I 0 0) 16 = _ := hk17.2.1
        have e1917 : (va_up I 0 0) 19 = _ := hk17.2.2
        have e117 : (va_up I 0 0) 1 = _ := hk17.1.2.1.1 1 (by decide)
        exact mk_ireti hx hb hr hlocks hP hD hK hS dX6_at_40 hw17
      · omega
    · skip
      refine lv_iconst (v := iz 1) hx hb dX6_at_13 (by decide) ?_
      refine lv_goto (tgt := 18) hx hb dX6_at_14 (by decide) ?_
      refine lv_iconst (v := iz 0) hx hb dX6_at_18 (by decide) ?_
      refine lv_iconst (v := iz 0) hx hb dX6_at_19 (by decide) ?_
      refine mk_calli (As := [.int (iz 1), .int (iz 0), .int (iz 0)]) (rest := []) ⟨hx, hb, hml, hown, hts⟩ (k_refused1 l dC dI mo ma cs I F 0 0 s.heap.size (by omega) (by omega) (by omega) (by omega)) (cwV 3 hts (kx_gV kq_04_msmall_8 kq_04_msmall_9 kq_04_msmall_10 kq_04_msmall_6 kq_04_msmall_11 rfl) rfl rfl rfl (by decide +kernel) ⟨Nat.le_of_ble_eq_true rfl, Nat.le_of_ble_eq_true rfl⟩) hP hD hK hG hZ hS hA rfl hl.1 rfl (Nat.le_of_ble_eq_true rfl) dX6_at_20 ⟨Nat.le_of_ble_eq_true rfl, Nat.le_of_ble_eq_true rfl⟩ (fun z_18 I_20 F_21 H locs hq_19 hP hD hS => ?_)
      try dsimp only at hq_19
      obtain ⟨rfl, rfl, rfl⟩ := hq_19
      refine ki_if_eq (tgt := 30) hx hb dX6_at_23 (by decide) (by omega) (by omega) (fun c_22 => ?_) (fun c_22 => ?_)
      · omega
      · skip
        refine lv_iconst (v := iz 0) hx hb dX6_at_26 (by decide) ?_
        refine lv_goto (tgt := 40) hx hb dX6_at_27 (by decide) ?_
        have hk23 : mWk _ _ (va_up I 0 1) F ∧ _ := mWk.thr hI (v := 1) (by omega)
        have hI23 : mIv (va_up I 0 1) F := hI.go hk23.1
        have hw23 : mWk _ _ (va_up I 0 1) F := hW0.tr hk23.1
        have e1623 : (va_up I 0 1) 16 = _ := hk23.2.1
        have e1923 : (va_up I 0 1) 19 = _ := hk23.2.2
        have e123 : (va_up I 0 1) 1 = _ := hk23.1.2.1.1 1 (by decide)
        exact mk_ireti hx hb hr hlocks hP hD hK hS dX6_at_40 hw23
