/-! THE CLAIM OUT OF ONE WALK OF THE LAW'S BODY. Your part is whole_start (and what it stands on); all else here is the same for every law, but numbers. -/
def R_law : String := "IndexSortLaw"
def lw_P (b : Addr) (xs : List Int32) (args : Array Value) (s : State) : Prop := args = #[.ref b] ∧ s.IntsAt b xs ∧ xs.length ≤ 256 ∧ (Jvm.Cond.and given_1 narrow_1).before args s = true
def lw_Q (_ : Array Value) (s : State) (o : Outcome) (t : State) : Prop := o = .returned (some (.int 1)) ∧ Framed s o t [] 600384 7291369
def lw_Z (below : List Frame) (a : Array Value) (s : State) : State → Prop := fun t => ∃ o, t.status = .running ∧ Ended t below o ∧ lw_Q a s o t
/-- the law's own end, with 1 on the stack, nothing written that was there before, its room as the claim has it -/
theorem lw_ret {p : Program} {l : Launch} {e : Env} {s : State} {m : MethodId} {below : List Frame} {meth : Method} {c : Code} {b : Nat} (hx : p.tables.exec = Jvm.exec) (hb : c.code = code) (hr : meth.sig.returnType = ret) (hlocks : meth.locks = false) {pc : Nat} {H : Heap} {ls : Array Slot} (hdg : decode code pc = .ok (.ireturn, 1)) : W p l e room_1 s m #[Value.ref b] below meth c H [] 600384 7291369 (lw_Z below #[Value.ref b] s) (F0 m pc ls [.int 1]) := by
  intro T hT X
  obtain ⟨fs, hret, hrun, hended, hW, hframe⟩ := X.leave (v := some (.int 1)) (hlocks := hlocks) (fun h => by rw [hr] at h; cases h)
  have hmeth' : T.vm.method? m = some meth := X.method'
  refine ⟨T.setFrames fs, ?_, .returned (some (.int 1)), hrun, hended, rfl, ⟨_, rfl⟩, hW, hframe⟩
  jvm_step X.here [X.here.top, hx, hb, hdg, hmeth', hr, ret, narrow_b1]
  (try refine ⟨rfl, ?_⟩); (try refine ⟨rfl, ?_⟩)
  first | (intro acts; rw [hret _ acts rfl rfl rfl]) | rw [hret _ _ rfl rfl rfl]
  exact Steps.refl _
/-- what holds at the law's entry: the machine, the code, the tables' words (any of lw_tbl by 'hts w (by decide +kernel)'), the script of L ints xs at the cell b, what the Statement gives of the start (any of its parts by flat_of_before) -/
def lw_At (p : Program) (s : State) (m : MethodId) (meth : Method) (c : Code) (b L : Nat) (xs : Nat → Int32) : Prop :=
  p.tables.exec = Jvm.exec ∧ c.code = code ∧ meth.sig.returnType = ret ∧ c.maxLocals = 7 ∧ s.vm.findClass R_law = some m.cls ∧ (∀ w ∈ lw_tbl, w.before #[Value.ref b] s = true) ∧ va_X b L xs s s.heap ∧ b < s.heap.size ∧ meth.locks = false ∧ (Jvm.Cond.and given_1 narrow_1).before #[Value.ref b] s = true
/-! the law: its world, what holds at its loop's head -/
abbrev lT (cI cB cE cL : ClassId) (cs : Nat → ClassId) : List (ClassId × FieldType) := [(cI, .int), (cB, .byte), (cE, .object RX0), (cs 2, .int), (cs 3, .int), (cs 4, .int), (cs 5, .int), (cs 6, .int), (cs 7, .int), (cs 8, .int), (cs 9, .boolean), (cs 10, .int), (cs 11, .int), (cs 12, .int), (cs 13, .int), (cs 17, .int), (cs 18, .int), (cs 20, .int), (cs 21, .boolean), (cs 22, .int), (cs 23, .int), (cs 24, .int), (cs 25, .int), (cs 26, .int), (cs 27, .int), (cs 28, .boolean), (cs 34, .int), (cs 36, .int), (cs 38, .int), (cs 39, .byte), (cs 41, .byte), (cL, .long)]
/-- from the place pc on, with i = 4 k and what holds after kk calls, the law comes to its end with true -/
def LW (p : Program) (l : Launch) (e : Env) (s : State) (m : MethodId) (below : List Frame) (meth : Method) (c : Code) (b : Nat) (dC : Nat → ClassId) (dI : Nat → Nat → Nat) (cI cB cE cL : ClassId) (cs : Nat → ClassId) (mo : Nat) (ma : Nat → Nat) (ou xr : Nat) (k kk : Int) (pc : Nat) : Prop :=
  ∀ (o : Nat → Nat) (r : Nat → Nat) (n : Nat → Nat) (z : Nat → Int) (F : Nat → Int → Int) (G : Nat → Option Nat) (N : Nat) (Eo : Nat → Nat → Nat) (Er : Nat → Nat → Nat) (En : Nat → Nat → Nat) (Ez : Nat → Nat → Int) (EF : Nat → Nat → Int → Int) (fo : Nat → Int64) (I : Nat → Int) (Fm : Nat → Int → Int) (H : Heap) (locs : List Loc) (cells slots : Nat) (ls : Array Slot), o 15 = xr → xOk n z F → xG N (z 12) G Eo → eA N En Ez EF → mIk kk I Fm → lawR7 z F Ez EF I Fm →
    va_P (dC, dI) kxCl (((xU cI cB cE o r n z F G (Eo 0 0) ++ mW mo ma cs I Fm) ++ [(ou, .inl (cL, 1, .inr (.inl fo)))]) ++ eP cI N Eo Er En Ez EF) H → va_D (fun q : Nat => s.heap.size ≤ q) (((xU cI cB cE o r n z F G (Eo 0 0) ++ mW mo ma cs I Fm) ++ [(ou, .inl (cL, 1, .inr (.inl fo)))]) ++ eP cI N Eo Er En Ez EF) → va_S (fun q : Nat => s.heap.size ≤ q) s.heap H locs → cells ≤ 200 + 820 * kk.toNat → slots ≤ 30000 + 51400 * kk.toNat → lv_has ls 7 [(4, .int (iz (4 * k))), (3, .ref ou), (2, .ref mo), (1, .ref xr), (0, .ref b)] →
    W p l e room_1 s m #[Value.ref b] below meth c H locs cells slots (lw_Z below #[Value.ref b] s) (F0 m pc ls [])
theorem lcC {a d : Nat} {k : Int} (h : a ≤ 200 + 820 * k.toNat) (hd : d ≤ 820) (hk : 0 ≤ k ∧ k < 64) : a + d ≤ 200 + 820 * (k + 1).toNat ∧ a + d ≤ 52680 := by omega
theorem lcS {a d : Nat} {k : Int} (h : a ≤ 30000 + 51400 * k.toNat) (hd : d ≤ 51400) (hk : 0 ≤ k ∧ k < 64) : a + d ≤ 30000 + 51400 * (k + 1).toNat ∧ a + d ≤ 3319600 := by omega
theorem kz_cmp {a b : Int64} (h : a = b) : lg_cmp a b = 0 := by
  subst h
  rw [lg_cmp, if_neg (show ¬ a > a from Int64.lt_irrefl), if_pos rfl]
theorem kq_92_law_0 : (Cond.methodLink RL 68 yL_entry) ∈ lw_tbl := by decide +kernel
theorem kq_92_law_1 : (Cond.static yL_entry) ∈ lw_tbl := by decide +kernel
theorem kq_92_law_2 : (Cond.initialized RL) ∈ lw_tbl := by decide +kernel
theorem kq_92_law_3 : (Cond.methodLink RL 73 yX6_entry) ∈ lw_tbl := by decide +kernel
theorem kq_92_law_4 : (Cond.instanceMethod yX6_entry) ∈ lw_tbl := by decide +kernel
theorem kq_92_law_5 : (Cond.selects RX6 yX6_entry yX6_entry) ∈ lw_tbl := by decide +kernel
theorem kq_92_law_6 : (Cond.code yX6_entry cX6_entry 4 (some .int)) ∈ lw_tbl := by decide +kernel
theorem kq_92_law_7 : (Cond.methodLink RL 74 yL_sign) ∈ lw_tbl := by decide +kernel
theorem kq_92_law_8 : (Cond.static yL_sign) ∈ lw_tbl := by decide +kernel
theorem kq_92_law_9 : (Cond.methodLink RL 76 yX6_sign) ∈ lw_tbl := by decide +kernel
theorem kq_92_law_10 : (Cond.instanceMethod yX6_sign) ∈ lw_tbl := by decide +kernel
theorem kq_92_law_11 : (Cond.selects RX6 yX6_sign yX6_sign) ∈ lw_tbl := by decide +kernel
theorem kq_92_law_12 : (Cond.code yX6_sign cX6_sign 3 (some .int)) ∈ lw_tbl := by decide +kernel
theorem kq_92_law_13 : (Cond.methodLink RL 77 yL_page) ∈ lw_tbl := by decide +kernel
theorem kq_92_law_14 : (Cond.static yL_page) ∈ lw_tbl := by decide +kernel
theorem kq_92_law_15 : (Cond.methodLink RL 80 yX6_page) ∈ lw_tbl := by decide +kernel
theorem kq_92_law_16 : (Cond.instanceMethod yX6_page) ∈ lw_tbl := by decide +kernel
theorem kq_92_law_17 : (Cond.selects RX6 yX6_page yX6_page) ∈ lw_tbl := by decide +kernel
theorem kq_92_law_18 : (Cond.code yX6_page cX6_page 4 (some .int)) ∈ lw_tbl := by decide +kernel
theorem kq_92_law_19 : (Cond.methodLink RL 81 yL_range) ∈ lw_tbl := by decide +kernel
theorem kq_92_law_20 : (Cond.static yL_range) ∈ lw_tbl := by decide +kernel
theorem kq_92_law_21 : (Cond.methodLink RL 84 yX6_range) ∈ lw_tbl := by decide +kernel
theorem kq_92_law_22 : (Cond.instanceMethod yX6_range) ∈ lw_tbl := by decide +kernel
theorem kq_92_law_23 : (Cond.selects RX6 yX6_range yX6_range) ∈ lw_tbl := by decide +kernel
theorem kq_92_law_24 : (Cond.code yX6_range cX6_range 5 (some .int)) ∈ lw_tbl := by decide +kernel
theorem kq_92_law_25 : (Cond.methodLink RL 85 yL_see) ∈ lw_tbl := by decide +kernel
theorem kq_92_law_26 : (Cond.static yL_see) ∈ lw_tbl := by decide +kernel
theorem kq_92_law_27 : (Cond.methodLink RL 87 yX6_see) ∈ lw_tbl := by decide +kernel
theorem kq_92_law_28 : (Cond.instanceMethod yX6_see) ∈ lw_tbl := by decide +kernel
theorem kq_92_law_29 : (Cond.selects RX6 yX6_see yX6_see) ∈ lw_tbl := by decide +kernel
theorem kq_92_law_30 : (Cond.code yX6_see cX6_see 6 (some .int)) ∈ lw_tbl := by decide +kernel
theorem kq_92_law_31 : (Cond.methodLink RL 88 yL_rule) ∈ lw_tbl := by decide +kernel
theorem kq_92_law_32 : (Cond.static yL_rule) ∈ lw_tbl := by decide +kernel
theorem kq_92_law_33 : (Cond.methodLink RL 91 yX6_rule) ∈ lw_tbl := by decide +kernel
theorem kq_92_law_34 : (Cond.instanceMethod yX6_rule) ∈ lw_tbl := by decide +kernel
theorem kq_92_law_35 : (Cond.selects RX6 yX6_rule yX6_rule) ∈ lw_tbl := by decide +kernel
theorem kq_92_law_36 : (Cond.code yX6_rule cX6_rule 4 (some .int)) ∈ lw_tbl := by decide +kernel
theorem kq_92_law_37 : (Cond.methodLink RL 92 yX5_run) ∈ lw_tbl := by decide +kernel
theorem kq_92_law_38 : (Cond.instanceMethod yX5_run) ∈ lw_tbl := by decide +kernel
theorem kq_92_law_39 : (Cond.selects RX5 yX5_run yX5_run) ∈ lw_tbl := by decide +kernel
theorem kq_92_law_40 : (Cond.code yX5_run cX5_run 1 (some .int)) ∈ lw_tbl := by decide +kernel
theorem kq_92_law_41 : (Cond.methodLink RL 95 yX6_run) ∈ lw_tbl := by decide +kernel
theorem kq_92_law_42 : (Cond.instanceMethod yX6_run) ∈ lw_tbl := by decide +kernel
theorem kq_92_law_43 : (Cond.selects RX6 yX6_run yX6_run) ∈ lw_tbl := by decide +kernel
theorem kq_92_law_44 : (Cond.code yX6_run cX6_run 1 (some .int)) ∈ lw_tbl := by decide +kernel
theorem kq_92_law_45 : (Cond.methodLink RL 96 yL_row) ∈ lw_tbl := by decide +kernel
theorem kq_92_law_46 : (Cond.static yL_row) ∈ lw_tbl := by decide +kernel
theorem kq_92_law_47 : (Cond.methodLink RL 98 yX6_row) ∈ lw_tbl := by decide +kernel
theorem kq_92_law_48 : (Cond.instanceMethod yX6_row) ∈ lw_tbl := by decide +kernel
theorem kq_92_law_49 : (Cond.selects RX6 yX6_row yX6_row) ∈ lw_tbl := by decide +kernel
theorem kq_92_law_50 : (Cond.code yX6_row cX6_row 4 (some .int)) ∈ lw_tbl := by decide +kernel
theorem kq_92_law_51 : (Cond.methodLink RL 99 yL_locator) ∈ lw_tbl := by decide +kernel
theorem kq_92_law_52 : (Cond.static yL_locator) ∈ lw_tbl := by decide +kernel
theorem kq_92_law_53 : (Cond.methodLink RL 101 yX6_locator) ∈ lw_tbl := by decide +kernel
theorem kq_92_law_54 : (Cond.instanceMethod yX6_locator) ∈ lw_tbl := by decide +kernel
theorem kq_92_law_55 : (Cond.selects RX6 yX6_locator yX6_locator) ∈ lw_tbl := by decide +kernel
theorem kq_92_law_56 : (Cond.code yX6_locator cX6_locator 5 (some .int)) ∈ lw_tbl := by decide +kernel
theorem kq_92_law_57 : (Cond.methodLink RL 102 yL_compare) ∈ lw_tbl := by decide +kernel
theorem kq_92_law_58 : (Cond.static yL_compare) ∈ lw_tbl := by decide +kernel
theorem kq_92_law_59 : (Cond.methodLink RL 104 yX6_compare) ∈ lw_tbl := by decide +kernel
theorem kq_92_law_60 : (Cond.instanceMethod yX6_compare) ∈ lw_tbl := by decide +kernel
theorem kq_92_law_61 : (Cond.selects RX6 yX6_compare yX6_compare) ∈ lw_tbl := by decide +kernel
theorem kq_92_law_62 : (Cond.code yX6_compare cX6_compare 3 (some .int)) ∈ lw_tbl := by decide +kernel
theorem kq_92_law_63 : (Cond.methodLink RL 105 yL_told) ∈ lw_tbl := by decide +kernel
theorem kq_92_law_64 : (Cond.static yL_told) ∈ lw_tbl := by decide +kernel
theorem kq_92_law_65 : (Cond.methodLink RL 107 yX6_told) ∈ lw_tbl := by decide +kernel
theorem kq_92_law_66 : (Cond.instanceMethod yX6_told) ∈ lw_tbl := by decide +kernel
theorem kq_92_law_67 : (Cond.selects RX6 yX6_told yX6_told) ∈ lw_tbl := by decide +kernel
theorem kq_92_law_68 : (Cond.code yX6_told cX6_told 10 (some .int)) ∈ lw_tbl := by decide +kernel
theorem kq_92_law_69 : (Cond.methodLink RL 108 yL_style) ∈ lw_tbl := by decide +kernel
theorem kq_92_law_70 : (Cond.static yL_style) ∈ lw_tbl := by decide +kernel
theorem kq_92_law_71 : (Cond.methodLink RL 111 yX6_style) ∈ lw_tbl := by decide +kernel
theorem kq_92_law_72 : (Cond.instanceMethod yX6_style) ∈ lw_tbl := by decide +kernel
theorem kq_92_law_73 : (Cond.selects RX6 yX6_style yX6_style) ∈ lw_tbl := by decide +kernel
theorem kq_92_law_74 : (Cond.code yX6_style cX6_style 2 (some .int)) ∈ lw_tbl := by decide +kernel
theorem kq_92_law_75 : (Cond.methodLink RL 112 yL_print) ∈ lw_tbl := by decide +kernel
theorem kq_92_law_76 : (Cond.static yL_print) ∈ lw_tbl := by decide +kernel
theorem kq_92_law_77 : (Cond.methodLink RL 115 yX6_print) ∈ lw_tbl := by decide +kernel
theorem kq_92_law_78 : (Cond.instanceMethod yX6_print) ∈ lw_tbl := by decide +kernel
theorem kq_92_law_79 : (Cond.selects RX6 yX6_print yX6_print) ∈ lw_tbl := by decide +kernel
theorem kq_92_law_80 : (Cond.code yX6_print cX6_print 5 (some .int)) ∈ lw_tbl := by decide +kernel
theorem kq_92_law_81 : (Cond.methodLink RL 116 yL_at) ∈ lw_tbl := by decide +kernel
theorem kq_92_law_82 : (Cond.static yL_at) ∈ lw_tbl := by decide +kernel
theorem kq_92_law_83 : (Cond.methodLink RL 118 yX6_at) ∈ lw_tbl := by decide +kernel
theorem kq_92_law_84 : (Cond.instanceMethod yX6_at) ∈ lw_tbl := by decide +kernel
theorem kq_92_law_85 : (Cond.selects RX6 yX6_at yX6_at) ∈ lw_tbl := by decide +kernel
theorem kq_92_law_86 : (Cond.code yX6_at cX6_at 2 (some .int)) ∈ lw_tbl := by decide +kernel
theorem kq_92_law_87 : (Cond.methodLink RL 119 yX6_thrown) ∈ lw_tbl := by decide +kernel
theorem kq_92_law_88 : (Cond.instanceMethod yX6_thrown) ∈ lw_tbl := by decide +kernel
theorem kq_92_law_89 : (Cond.selects RX6 yX6_thrown yX6_thrown) ∈ lw_tbl := by decide +kernel
theorem kq_92_law_90 : (Cond.code yX6_thrown cX6_thrown 1 (some .int)) ∈ lw_tbl := by decide +kernel
theorem kq_92_law_91 : (Cond.laysStatic Bundle.tN "UNASSIGNED_STACK" Bundle.steD) ∈ lw_tbl := by decide +kernel
theorem kq_92_law_92 : (Cond.initialized Bundle.tN) ∈ lw_tbl := by decide +kernel
theorem kq_92_law_93 : (Cond.laysStatic Bundle.tN "SUPPRESSED_SENTINEL" Bundle.listD) ∈ lw_tbl := by decide +kernel
theorem lq_0 : va_nd [0, 1, 2, 3, 4, 5, 6, 7, 8, 9, 10, 11, 12, 13, 14, 15, 16, 17, 18, 19, 20, 21, 22, 23, 24, 25, 26, 27, 28, 58] = true := by decide
theorem lq_1 : va_nd [29, 30, 31, 32, 33, 34, 35, 36, 37, 38, 39, 40, 41, 42, 43, 44, 45, 46, 47, 48, 49, 50, 51, 52, 53, 54, 55, 56, 57] = true := by decide
theorem lq_2 : ∀ i ∈ [29, 30, 31, 32, 33, 34, 35, 36, 37, 38, 39, 40, 41, 42, 43, 44, 45, 46, 47, 48, 49, 50, 51, 52, 53, 54, 55, 56, 57], i ∉ [0, 1, 2, 3, 4, 5, 6, 7, 8, 9, 10, 11, 12, 13, 14, 15, 16, 17, 18, 19, 20, 21, 22, 23, 24, 25, 26, 27, 28, 58] := by decide
theorem lq_3 : va_nd [29, 30, 31, 32, 33, 34, 35, 36, 37, 38, 39, 40, 41, 42, 43, 44, 45, 46, 47, 48, 49, 50, 51, 52, 53, 54, 55, 56, 57, 0, 1, 2, 3, 4, 5, 6, 7, 8, 9, 10, 11, 12, 13, 14, 15, 16, 17, 18, 19, 20, 21, 22, 23, 24, 25, 26, 27, 28, 58] = true := by decide
theorem lq_4 : ∀ i ∈ [0, 1, 2, 3, 4, 5, 6, 7, 8, 9, 10, 11, 12, 13, 14, 15, 16, 17, 18, 19, 20, 21, 22, 23, 24, 25, 26, 27, 28, 58], i ∉ [29, 30, 31, 32, 33, 34, 35, 36, 37, 38, 39, 40, 41, 42, 43, 44, 45, 46, 47, 48, 49, 50, 51, 52, 53, 54, 55, 56, 57] := by decide
theorem lq_5 : va_nd [0, 1, 2, 3, 4, 5, 6, 7, 8, 9, 10, 11, 12, 13, 14, 15, 16, 17, 18, 19, 20, 21, 22, 23, 24, 25, 26, 27, 28, 30, 31, 32, 33, 34, 35, 36, 37, 38, 39, 40, 41, 42, 43, 44, 45, 46, 47, 48, 49, 50, 51, 52, 53, 54, 55, 56, 57, 58, 29] = true := by decide
theorem lq_6 : va_nd [0, 1, 2, 3, 4, 5, 6, 7, 8, 9, 10, 11, 12, 13, 14, 15, 16, 17, 18, 19, 20, 21, 22, 23, 24, 25, 26, 27, 28] = true := by decide
theorem lq_7 : va_nd [29, 30, 31, 32, 33, 34, 35, 36, 37, 38, 39, 40, 41, 42, 43, 44, 45, 46, 47, 48, 49, 50, 51, 52, 53, 54, 55, 56, 57, 58] = true := by decide
theorem lq_8 : ∀ i ∈ [29, 30, 31, 32, 33, 34, 35, 36, 37, 38, 39, 40, 41, 42, 43, 44, 45, 46, 47, 48, 49, 50, 51, 52, 53, 54, 55, 56, 57, 58], i ∉ [0, 1, 2, 3, 4, 5, 6, 7, 8, 9, 10, 11, 12, 13, 14, 15, 16, 17, 18, 19, 20, 21, 22, 23, 24, 25, 26, 27, 28] := by decide
theorem lq_9 : va_nd [30, 31, 32, 33, 34, 35, 36, 37, 38, 39, 40, 41, 42, 43, 44, 45, 46, 47, 48, 49, 50, 51, 52, 53, 54, 55, 56, 57, 58, 0, 1, 2, 3, 4, 5, 6, 7, 8, 9, 10, 11, 12, 13, 14, 15, 16, 17, 18, 19, 20, 21, 22, 23, 24, 25, 26, 27, 28, 29] = true := by decide
theorem law_Z {s : State} {a : Array Value} (hts0 : ∀ w ∈ lw_tbl, w.before a s = true) (hgv : (Jvm.Cond.and given_1 narrow_1).before a s = true) : kx_Z (fun q : Nat => s.heap.size ≤ q) s s.heap :=
  ⟨vx_Zqof (hts0 _ kq_92_law_91) (hts0 _ kq_92_law_92) (flat_of_before _ hgv _ (by decide +kernel)) (fun a ha h => absurd h (Nat.not_le.mpr ha)),
   vx_Zqof (hts0 _ kq_92_law_93) (hts0 _ kq_92_law_92) (flat_of_before _ hgv _ (by decide +kernel)) (fun a ha h => absurd h (Nat.not_le.mpr ha))⟩
set_option maxHeartbeats 4000000 in
set_option maxRecDepth 100000 in
theorem law_entry {p : Program} {l : Launch} {e : Env} {s : State} {m : MethodId} {below : List Frame} {meth : Method} {c : Code} {b : Nat} {dC : Nat → ClassId} {dI : Nat → Nat → Nat} {cI cB cE cL : ClassId} {cs : Nat → ClassId} {mo : Nat} {ma : Nat → Nat} {ou xr : Nat} {L : Nat} {xs : Nat → Int32} {k : Int} (hlf : l.stackTraces = false) (C0 : lw_At p s m meth c b L xs) (hL : L ≤ 256) (hk : 0 ≤ k ∧ 4 * k + 4 ≤ (L : Int)) (hK : va_K (dC, dI) kxCl (lT cI cB cE cL cs) s) (kk : LW p l e s m below meth c b dC dI cI cB cE cL cs mo ma ou xr k (k + 1) 689) : LW p l e s m below meth c b dC dI cI cB cE cL cs mo ma ou xr k k 108 := by
  obtain ⟨hx, hb, hr, hml, hown, hts0, hX, hbl, hlocks, hgv⟩ := id C0
  have hown : s.vm.findClass RL = some m.cls := hown
  have hA : ∀ q : Nat, s.heap.size ≤ q → (fun q : Nat => s.heap.size ≤ q) q := fun _ h => h
  have hbA : ¬ (fun q : Nat => s.heap.size ≤ q) b := Nat.not_le.mpr hbl
  have hG : kx_G s := ⟨s, _, hts0, hgv, State.WarmedH.refl s⟩
  have hZ : kx_Z (fun q : Nat => s.heap.size ≤ q) s s.heap := law_Z hts0 hgv
  have hts := kx_hts (a := #[Value.ref b]) hG
  intro o r n z F G N Eo Er En Ez EF fo I Fm H locs cells slots ls hxr hok hxG hPE hI hR hP hD hS hcl hsl hl
  subst hxr
  obtain ⟨⟨hR, hYl⟩, hOl⟩ := hR
  obtain ⟨⟨hR, hQ, hW, hV⟩, hPg, hCk⟩ := hR
  obtain ⟨hN1, hN2, hN3, hN4⟩ := id hxG
  have hz78 := hR.2.1
  have hk64 := hI.2.1.1
  have hk01 : 0 ≤ k ∧ k < 64 := by omega
  obtain ⟨a1, ea1, a1l, a1h⟩ := iz_of (xs (iz (4 * k + 1)).toNatClampNeg)
  obtain ⟨a2, ea2, a2l, a2h⟩ := iz_of (xs (iz (4 * k + 2)).toNatClampNeg)
  obtain ⟨a3, ea3, a3l, a3h⟩ := iz_of (xs (iz (4 * k + 3)).toNatClampNeg)
  refine lv_aload_n hx hb dL_law_108 rfl (lv_at hl 3 rfl) ?_
  refine lv_aload_n hx hb dL_law_109 rfl (lv_at hl 4 rfl) ?_
  refine lv_iload hx hb dL_law_110 (lv_at hl 0 rfl) ?_
  refine lv_iconst (v := iz 1) hx hb dL_law_112 (by decide) ?_
  refine ki_iadd hx hb dL_law_113 ?_
  refine va_sld hx hb hX hbl hbA hS (iz_in (by omega) (by omega) (by omega)) dL_law_114 ?_
  refine ki_is ea1 ?_
  refine lv_aload_n hx hb dL_law_115 rfl (lv_at hl 4 rfl) ?_
  refine lv_iload hx hb dL_law_116 (lv_at hl 0 rfl) ?_
  refine lv_iconst (v := iz 2) hx hb dL_law_118 (by decide) ?_
  refine ki_iadd hx hb dL_law_119 ?_
  refine va_sld hx hb hX hbl hbA hS (iz_in (by omega) (by omega) (by omega)) dL_law_120 ?_
  refine ki_is ea2 ?_
  refine lv_aload_n hx hb dL_law_121 rfl (lv_at hl 1 rfl) ?_
  have hPc : va_P (dC, dI) kxCl ((xU cI cB cE o r n z F G (Eo 0 0) ++ [(ou, .inl (cL, 1, .inr (.inl fo)))]) ++ eP cI N Eo Er En Ez EF) H := va_P.part (cx := xU cI cB cE o r n z F G (Eo 0 0) ++ [(ou, .inl (cL, 1, .inr (.inl fo)))]) hP [0, 1, 2, 3, 4, 5, 6, 7, 8, 9, 10, 11, 12, 13, 14, 15, 16, 17, 18, 19, 20, 21, 22, 23, 24, 25, 26, 27, 28, 58] rfl
  have hDc : va_D (fun q : Nat => s.heap.size ≤ q) ((xU cI cB cE o r n z F G (Eo 0 0) ++ [(ou, .inl (cL, 1, .inr (.inl fo)))]) ++ eP cI N Eo Er En Ez EF) := va_D.part (cx := xU cI cB cE o r n z F G (Eo 0 0) ++ [(ou, .inl (cL, 1, .inr (.inl fo)))]) hD [0, 1, 2, 3, 4, 5, 6, 7, 8, 9, 10, 11, 12, 13, 14, 15, 16, 17, 18, 19, 20, 21, 22, 23, 24, 25, 26, 27, 28, 58] lq_0 rfl
  have hFc := va_freeP (cx := xU cI cB cE o r n z F G (Eo 0 0) ++ [(ou, .inl (cL, 1, .inr (.inl fo)))]) hD hS hA [0, 1, 2, 3, 4, 5, 6, 7, 8, 9, 10, 11, 12, 13, 14, 15, 16, 17, 18, 19, 20, 21, 22, 23, 24, 25, 26, 27, 28, 58] rfl
  have hKc := hK.sub (tys' := [(cI, .int), (cB, .byte), (cE, .object RX0), (cL, .long)]) [0, 1, 2, 31] rfl
  refine xk_call (vx_runSW (As := [.ref (o 15), .int (iz a1), .int (iz a2), .ref ou]) (rest := []) ⟨hx, hb, hml, hown, hts⟩ (h_entry5 l hlf dC dI cI cB cE cL o r n z F G N Eo Er En Ez EF ou fo a1 a2 H.size hok hxG hPE (by omega) (by omega) (by omega) (by omega) (by omega)) (vx_cwSW 4 hts (kx_gS kq_92_law_0 kq_92_law_1 kq_92_law_2 kq_25_xhelp_0 rfl) rfl rfl rfl (by decide +kernel) ⟨Nat.le_of_ble_eq_true rfl, Nat.le_of_ble_eq_true rfl⟩) ⟨kx_blind, kx_give (ws := []) (tys := []) hPc hDc hKc hG hZ hS hFc⟩ rfl rfl hl.1 rfl (lv_room (Nat.le_of_ble_eq_true rfl)) dL_law_122 ⟨show cells + 60 ≤ 600384 from (by omega), show slots + 200 ≤ 7291369 from (by omega)⟩) hS (fun q _ h => hFc q h) hFc (fun u dn9 dm9 t H1 locs ht hvm hq hB hk1 hS => ?_)
  obtain ⟨q9, fo9, o9, r9, n9, z9, F9, G9, N9, Eo9, Er9, En9, Ez9, EF9⟩ := u
  obtain ⟨hP1, hK1, hD1⟩ := hB
  rw [ht] at hP1
  try dsimp only at hq
  obtain ⟨hP, hD⟩ := va_joinP (wr := mW mo ma cs I Fm) (rx := xU cI cB cE o9 r9 n9 z9 F9 G9 (Eo9 0 0) ++ [(ou, .inl (cL, 1, .inr (.inl fo9)))]) (pl1 := eP cI N9 Eo9 Er9 En9 Ez9 EF9) hP hD [0, 1, 2, 3, 4, 5, 6, 7, 8, 9, 10, 11, 12, 13, 14, 15, 16, 17, 18, 19, 20, 21, 22, 23, 24, 25, 26, 27, 28, 58] [29, 30, 31, 32, 33, 34, 35, 36, 37, 38, 39, 40, 41, 42, 43, 44, 45, 46, 47, 48, 49, 50, 51, 52, 53, 54, 55, 56, 57] rfl rfl lq_1 lq_2 hk1 hFc hP1 hD1
  generalize H1 = H at hP hS ⊢
  have hP : va_P (dC, dI) kxCl (((xU cI cB cE o9 r9 n9 z9 F9 G9 (Eo9 0 0) ++ mW mo ma cs I Fm) ++ [(ou, .inl (cL, 1, .inr (.inl fo9)))]) ++ eP cI N9 Eo9 Er9 En9 Ez9 EF9) H := va_P.part (cx := ((xU cI cB cE o9 r9 n9 z9 F9 G9 (Eo9 0 0) ++ mW mo ma cs I Fm) ++ [(ou, .inl (cL, 1, .inr (.inl fo9)))])) hP [29, 30, 31, 32, 33, 34, 35, 36, 37, 38, 39, 40, 41, 42, 43, 44, 45, 46, 47, 48, 49, 50, 51, 52, 53, 54, 55, 56, 57, 0, 1, 2, 3, 4, 5, 6, 7, 8, 9, 10, 11, 12, 13, 14, 15, 16, 17, 18, 19, 20, 21, 22, 23, 24, 25, 26, 27, 28, 58] rfl
  have hD : va_D (fun q : Nat => s.heap.size ≤ q) (((xU cI cB cE o9 r9 n9 z9 F9 G9 (Eo9 0 0) ++ mW mo ma cs I Fm) ++ [(ou, .inl (cL, 1, .inr (.inl fo9)))]) ++ eP cI N9 Eo9 Er9 En9 Ez9 EF9) := va_D.part (cx := ((xU cI cB cE o9 r9 n9 z9 F9 G9 (Eo9 0 0) ++ mW mo ma cs I Fm) ++ [(ou, .inl (cL, 1, .inr (.inl fo9)))])) hD [29, 30, 31, 32, 33, 34, 35, 36, 37, 38, 39, 40, 41, 42, 43, 44, 45, 46, 47, 48, 49, 50, 51, 52, 53, 54, 55, 56, 57, 0, 1, 2, 3, 4, 5, 6, 7, 8, 9, 10, 11, 12, 13, 14, 15, 16, 17, 18, 19, 20, 21, 22, 23, 24, 25, 26, 27, 28, 58] lq_3 rfl
  obtain ⟨hok9, hxG9, hPE9, hcost, ho9, hrel⟩ := hq
  have hrelF := fun (_ : Unit) => hrel
  clear hrel
  have hlc := lcC hcl (Nat.le_trans hcost.1 (by decide)) hk01
  have hls := lcS hsl (Nat.le_trans hcost.2 (by decide)) hk01
  refine W.eq (g2 := F0 m 125 ls [.int (iz q9)]) rfl ?_
  refine lv_istore (lv' := [(5, .int (iz q9)), (4, .int (iz (4 * k))), (3, .ref ou), (2, .ref mo), (1, .ref (o 15)), (0, .ref b)]) hx hb dL_law_125 hl (by decide) rfl (fun ls hl => ?_)
  refine lv_aload_n hx hb dL_law_127 rfl (lv_at hl 3 rfl) ?_
  refine lv_aload_n hx hb dL_law_128 rfl (lv_at hl 5 rfl) ?_
  refine lv_iload hx hb dL_law_129 (lv_at hl 1 rfl) ?_
  refine lv_iconst (v := iz 1) hx hb dL_law_131 (by decide) ?_
  refine ki_iadd hx hb dL_law_132 ?_
  refine va_sld hx hb hX hbl hbA hS (iz_in (by omega) (by omega) (by omega)) dL_law_133 ?_
  refine ki_is ea1 ?_
  refine lv_aload_n hx hb dL_law_134 rfl (lv_at hl 5 rfl) ?_
  refine lv_iload hx hb dL_law_135 (lv_at hl 1 rfl) ?_
  refine lv_iconst (v := iz 2) hx hb dL_law_137 (by decide) ?_
  refine ki_iadd hx hb dL_law_138 ?_
  refine va_sld hx hb hX hbl hbA hS (iz_in (by omega) (by omega) (by omega)) dL_law_139 ?_
  refine ki_is ea2 ?_
  have hPc := hP.sub (ws' := mW mo ma cs I Fm) [29, 30, 31, 32, 33, 34, 35, 36, 37, 38, 39, 40, 41, 42, 43, 44, 45, 46, 47, 48, 49, 50, 51, 52, 53, 54, 55, 56, 57] rfl
  have hDc := hD.sub (ws' := mW mo ma cs I Fm) [29, 30, 31, 32, 33, 34, 35, 36, 37, 38, 39, 40, 41, 42, 43, 44, 45, 46, 47, 48, 49, 50, 51, 52, 53, 54, 55, 56, 57] lq_1 rfl
  have hFc := va_free (wc := mW mo ma cs I Fm) hD hS hA [29, 30, 31, 32, 33, 34, 35, 36, 37, 38, 39, 40, 41, 42, 43, 44, 45, 46, 47, 48, 49, 50, 51, 52, 53, 54, 55, 56, 57] rfl
  have hKc := hK.sub (tys' := mT cs) [3, 4, 5, 6, 7, 8, 9, 10, 11, 12, 13, 14, 15, 16, 17, 18, 19, 20, 21, 22, 23, 24, 25, 26, 27, 28, 29, 30] rfl
  refine va_calli (va_runV (As := [.int (iz a1), .int (iz a2)]) (rest := []) ⟨hx, hb, hml, hown, hts⟩ (k_entry l dC dI mo ma cs I Fm a1 a2 H.size hI.1.hB hI.1.hc (by omega) (by omega) (by omega) (by omega)) (cwV 2 hts (kx_gV kq_92_law_3 kq_92_law_4 kq_92_law_5 kq_04_msmall_6 kq_92_law_6 rfl) rfl rfl rfl (by decide +kernel) ⟨Nat.le_of_ble_eq_true rfl, Nat.le_of_ble_eq_true rfl⟩) ⟨kx_blind, va_recv hKc hPc (ci := 6) (q0 := 0) rfl rfl, kx_give (ws := []) (tys := []) hPc hDc hKc hG hZ hS hFc⟩ rfl rfl hl.1 rfl (lv_room (Nat.le_of_ble_eq_true rfl)) dL_law_140 ⟨show (cells + dn9) + 0 ≤ 600384 from (Nat.le_trans hlc.2 (by decide)), show (slots + dm9) + 0 ≤ 7291369 from (Nat.le_trans hls.2 (by decide))⟩) hS (fun q _ h => hFc q h) hFc (fun r u t H1 locs ht hvm hw hB hz1 hk1 hS => ?_)
  obtain ⟨rr1, J1, G1m⟩ := u
  obtain ⟨hP1, hK1, hD1⟩ := hB
  rw [ht] at hP1
  obtain ⟨e1, hw⟩ := hw
  subst e1
  try dsimp only at hw
  obtain ⟨hP, hD⟩ := va_joinQ (wr := xU cI cB cE o9 r9 n9 z9 F9 G9 (Eo9 0 0) ++ [(ou, .inl (cL, 1, .inr (.inl fo9)))]) (w1 := mW mo ma cs J1 G1m) hP hD [29, 30, 31, 32, 33, 34, 35, 36, 37, 38, 39, 40, 41, 42, 43, 44, 45, 46, 47, 48, 49, 50, 51, 52, 53, 54, 55, 56, 57] [0, 1, 2, 3, 4, 5, 6, 7, 8, 9, 10, 11, 12, 13, 14, 15, 16, 17, 18, 19, 20, 21, 22, 23, 24, 25, 26, 27, 28, 58] rfl rfl lq_0 lq_4 hk1 hFc hP1 hD1
  generalize H1 = H at hP hS ⊢
  have hP : va_P (dC, dI) kxCl (((xU cI cB cE o9 r9 n9 z9 F9 G9 (Eo9 0 0) ++ mW mo ma cs J1 G1m) ++ [(ou, .inl (cL, 1, .inr (.inl fo9)))]) ++ eP cI N9 Eo9 Er9 En9 Ez9 EF9) H := va_P.part (cx := ((xU cI cB cE o9 r9 n9 z9 F9 G9 (Eo9 0 0) ++ mW mo ma cs J1 G1m) ++ [(ou, .inl (cL, 1, .inr (.inl fo9)))])) hP [0, 1, 2, 3, 4, 5, 6, 7, 8, 9, 10, 11, 12, 13, 14, 15, 16, 17, 18, 19, 20, 21, 22, 23, 24, 25, 26, 27, 28, 30, 31, 32, 33, 34, 35, 36, 37, 38, 39, 40, 41, 42, 43, 44, 45, 46, 47, 48, 49, 50, 51, 52, 53, 54, 55, 56, 57, 58, 29] rfl
  have hD : va_D (fun q : Nat => s.heap.size ≤ q) (((xU cI cB cE o9 r9 n9 z9 F9 G9 (Eo9 0 0) ++ mW mo ma cs J1 G1m) ++ [(ou, .inl (cL, 1, .inr (.inl fo9)))]) ++ eP cI N9 Eo9 Er9 En9 Ez9 EF9) := va_D.part (cx := ((xU cI cB cE o9 r9 n9 z9 F9 G9 (Eo9 0 0) ++ mW mo ma cs J1 G1m) ++ [(ou, .inl (cL, 1, .inr (.inl fo9)))])) hD [0, 1, 2, 3, 4, 5, 6, 7, 8, 9, 10, 11, 12, 13, 14, 15, 16, 17, 18, 19, 20, 21, 22, 23, 24, 25, 26, 27, 28, 30, 31, 32, 33, 34, 35, 36, 37, 38, 39, 40, 41, 42, 43, 44, 45, 46, 47, 48, 49, 50, 51, 52, 53, 54, 55, 56, 57, 58, 29] lq_5 rfl
  obtain ⟨hcode, hans, hR9, hI9, hQ9, hW9⟩ := sw_entry hI hk01.2 hR hQ hW hxG.2.2.1 (wk_entry (hrelF ())) hw
  have hV9 := ss_entry hI hR hxG.2.2.1 hcode hV (wk_entry (hrelF ())) hw
  obtain ⟨hPg9, hCk9⟩ := sp_entry hI hR hW hPg hCk hxG.2.2.1 hcode (hrelF ()) hw
  have hY9 := sy_entry hYl (hrelF ()) hw
  have hO9 := so_entry hOl (hrelF ()) hw
  refine W.eq (g2 := F0 m 143 ls [.int (iz rr1)]) rfl ?_
  have hbq := hI9.1.hB.1 0
  refine lv_istore (lv' := [(6, .int (iz rr1)), (5, .int (iz q9)), (4, .int (iz (4 * k))), (3, .ref ou), (2, .ref mo), (1, .ref (o 15)), (0, .ref b)]) hx hb dL_law_143 hl (by decide) rfl (fun ls hl => ?_)
  refine lv_goto (tgt := 689) hx hb dL_law_145 (by decide) ?_
  exact kk o9 r9 n9 z9 F9 G9 N9 Eo9 Er9 En9 Ez9 EF9 fo9 J1 G1m H _ _ _ ls (ho9 15 (by decide) (by decide)) hok9 hxG9 hPE9 hI9 ⟨⟨⟨⟨hR9, hQ9, hW9, hV9⟩, hPg9, hCk9⟩, hY9⟩, hO9⟩ hP hD hS hlc.1 hls.1 (lv_sub hl [2, 3, 4, 5, 6] rfl)
set_option maxHeartbeats 4000000 in
set_option maxRecDepth 100000 in
theorem law_sign {p : Program} {l : Launch} {e : Env} {s : State} {m : MethodId} {below : List Frame} {meth : Method} {c : Code} {b : Nat} {dC : Nat → ClassId} {dI : Nat → Nat → Nat} {cI cB cE cL : ClassId} {cs : Nat → ClassId} {mo : Nat} {ma : Nat → Nat} {ou xr : Nat} {L : Nat} {xs : Nat → Int32} {k : Int} (hlf : l.stackTraces = false) (C0 : lw_At p s m meth c b L xs) (hL : L ≤ 256) (hk : 0 ≤ k ∧ 4 * k + 4 ≤ (L : Int)) (hK : va_K (dC, dI) kxCl (lT cI cB cE cL cs) s) (kk : LW p l e s m below meth c b dC dI cI cB cE cL cs mo ma ou xr k (k + 1) 689) : LW p l e s m below meth c b dC dI cI cB cE cL cs mo ma ou xr k k 148 := by
  obtain ⟨hx, hb, hr, hml, hown, hts0, hX, hbl, hlocks, hgv⟩ := id C0
  have hown : s.vm.findClass RL = some m.cls := hown
  have hA : ∀ q : Nat, s.heap.size ≤ q → (fun q : Nat => s.heap.size ≤ q) q := fun _ h => h
  have hbA : ¬ (fun q : Nat => s.heap.size ≤ q) b := Nat.not_le.mpr hbl
  have hG : kx_G s := ⟨s, _, hts0, hgv, State.WarmedH.refl s⟩
  have hZ : kx_Z (fun q : Nat => s.heap.size ≤ q) s s.heap := law_Z hts0 hgv
  have hts := kx_hts (a := #[Value.ref b]) hG
  intro o r n z F G N Eo Er En Ez EF fo I Fm H locs cells slots ls hxr hok hxG hPE hI hR hP hD hS hcl hsl hl
  subst hxr
  obtain ⟨⟨hR, hYl⟩, hOl⟩ := hR
  obtain ⟨⟨hR, hQ, hW, hV⟩, hPg, hCk⟩ := hR
  obtain ⟨hN1, hN2, hN3, hN4⟩ := id hxG
  have hz78 := hR.2.1
  have hk64 := hI.2.1.1
  have hk01 : 0 ≤ k ∧ k < 64 := by omega
  obtain ⟨a1, ea1, a1l, a1h⟩ := iz_of (xs (iz (4 * k + 1)).toNatClampNeg)
  obtain ⟨a2, ea2, a2l, a2h⟩ := iz_of (xs (iz (4 * k + 2)).toNatClampNeg)
  obtain ⟨a3, ea3, a3l, a3h⟩ := iz_of (xs (iz (4 * k + 3)).toNatClampNeg)
  refine lv_aload_n hx hb dL_law_148 rfl (lv_at hl 3 rfl) ?_
  refine lv_aload_n hx hb dL_law_149 rfl (lv_at hl 4 rfl) ?_
  refine lv_iload hx hb dL_law_150 (lv_at hl 0 rfl) ?_
  refine lv_iconst (v := iz 1) hx hb dL_law_152 (by decide) ?_
  refine ki_iadd hx hb dL_law_153 ?_
  refine va_sld hx hb hX hbl hbA hS (iz_in (by omega) (by omega) (by omega)) dL_law_154 ?_
  refine ki_is ea1 ?_
  refine lv_aload_n hx hb dL_law_155 rfl (lv_at hl 4 rfl) ?_
  refine lv_iload hx hb dL_law_156 (lv_at hl 0 rfl) ?_
  refine lv_iconst (v := iz 2) hx hb dL_law_158 (by decide) ?_
  refine ki_iadd hx hb dL_law_159 ?_
  refine va_sld hx hb hX hbl hbA hS (iz_in (by omega) (by omega) (by omega)) dL_law_160 ?_
  refine ki_is ea2 ?_
  refine lv_aload_n hx hb dL_law_161 rfl (lv_at hl 1 rfl) ?_
  have hPc : va_P (dC, dI) kxCl ((xU cI cB cE o r n z F G (Eo 0 0) ++ [(ou, .inl (cL, 1, .inr (.inl fo)))]) ++ eP cI N Eo Er En Ez EF) H := va_P.part (cx := xU cI cB cE o r n z F G (Eo 0 0) ++ [(ou, .inl (cL, 1, .inr (.inl fo)))]) hP [0, 1, 2, 3, 4, 5, 6, 7, 8, 9, 10, 11, 12, 13, 14, 15, 16, 17, 18, 19, 20, 21, 22, 23, 24, 25, 26, 27, 28, 58] rfl
  have hDc : va_D (fun q : Nat => s.heap.size ≤ q) ((xU cI cB cE o r n z F G (Eo 0 0) ++ [(ou, .inl (cL, 1, .inr (.inl fo)))]) ++ eP cI N Eo Er En Ez EF) := va_D.part (cx := xU cI cB cE o r n z F G (Eo 0 0) ++ [(ou, .inl (cL, 1, .inr (.inl fo)))]) hD [0, 1, 2, 3, 4, 5, 6, 7, 8, 9, 10, 11, 12, 13, 14, 15, 16, 17, 18, 19, 20, 21, 22, 23, 24, 25, 26, 27, 28, 58] lq_0 rfl
  have hFc := va_freeP (cx := xU cI cB cE o r n z F G (Eo 0 0) ++ [(ou, .inl (cL, 1, .inr (.inl fo)))]) hD hS hA [0, 1, 2, 3, 4, 5, 6, 7, 8, 9, 10, 11, 12, 13, 14, 15, 16, 17, 18, 19, 20, 21, 22, 23, 24, 25, 26, 27, 28, 58] rfl
  have hKc := hK.sub (tys' := [(cI, .int), (cB, .byte), (cE, .object RX0), (cL, .long)]) [0, 1, 2, 31] rfl
  refine xk_call (vx_runSW (As := [.ref (o 15), .int (iz a1), .int (iz a2), .ref ou]) (rest := []) ⟨hx, hb, hml, hown, hts⟩ (h_sign5 l hlf dC dI cI cB cE cL o r n z F G N Eo Er En Ez EF ou fo a1 a2 H.size hok hxG hPE (by omega) (by omega) (by omega) (by omega) (fun h9 => hQ.rng hR h9.1 (by omega))) (vx_cwSW 4 hts (kx_gS kq_92_law_7 kq_92_law_8 kq_92_law_2 kq_25_xhelp_9 rfl) rfl rfl rfl (by decide +kernel) ⟨Nat.le_of_ble_eq_true rfl, Nat.le_of_ble_eq_true rfl⟩) ⟨kx_blind, kx_give (ws := []) (tys := []) hPc hDc hKc hG hZ hS hFc⟩ rfl rfl hl.1 rfl (lv_room (Nat.le_of_ble_eq_true rfl)) dL_law_162 ⟨show cells + 200 ≤ 600384 from (by omega), show slots + 60000 ≤ 7291369 from (by omega)⟩) hS (fun q _ h => hFc q h) hFc (fun u dn9 dm9 t H1 locs ht hvm hq hB hk1 hS => ?_)
  obtain ⟨q9, fo9, o9, r9, n9, z9, F9, G9, N9, Eo9, Er9, En9, Ez9, EF9⟩ := u
  obtain ⟨hP1, hK1, hD1⟩ := hB
  rw [ht] at hP1
  try dsimp only at hq
  obtain ⟨hP, hD⟩ := va_joinP (wr := mW mo ma cs I Fm) (rx := xU cI cB cE o9 r9 n9 z9 F9 G9 (Eo9 0 0) ++ [(ou, .inl (cL, 1, .inr (.inl fo9)))]) (pl1 := eP cI N9 Eo9 Er9 En9 Ez9 EF9) hP hD [0, 1, 2, 3, 4, 5, 6, 7, 8, 9, 10, 11, 12, 13, 14, 15, 16, 17, 18, 19, 20, 21, 22, 23, 24, 25, 26, 27, 28, 58] [29, 30, 31, 32, 33, 34, 35, 36, 37, 38, 39, 40, 41, 42, 43, 44, 45, 46, 47, 48, 49, 50, 51, 52, 53, 54, 55, 56, 57] rfl rfl lq_1 lq_2 hk1 hFc hP1 hD1
  generalize H1 = H at hP hS ⊢
  have hP : va_P (dC, dI) kxCl (((xU cI cB cE o9 r9 n9 z9 F9 G9 (Eo9 0 0) ++ mW mo ma cs I Fm) ++ [(ou, .inl (cL, 1, .inr (.inl fo9)))]) ++ eP cI N9 Eo9 Er9 En9 Ez9 EF9) H := va_P.part (cx := ((xU cI cB cE o9 r9 n9 z9 F9 G9 (Eo9 0 0) ++ mW mo ma cs I Fm) ++ [(ou, .inl (cL, 1, .inr (.inl fo9)))])) hP [29, 30, 31, 32, 33, 34, 35, 36, 37, 38, 39, 40, 41, 42, 43, 44, 45, 46, 47, 48, 49, 50, 51, 52, 53, 54, 55, 56, 57, 0, 1, 2, 3, 4, 5, 6, 7, 8, 9, 10, 11, 12, 13, 14, 15, 16, 17, 18, 19, 20, 21, 22, 23, 24, 25, 26, 27, 28, 58] rfl
  have hD : va_D (fun q : Nat => s.heap.size ≤ q) (((xU cI cB cE o9 r9 n9 z9 F9 G9 (Eo9 0 0) ++ mW mo ma cs I Fm) ++ [(ou, .inl (cL, 1, .inr (.inl fo9)))]) ++ eP cI N9 Eo9 Er9 En9 Ez9 EF9) := va_D.part (cx := ((xU cI cB cE o9 r9 n9 z9 F9 G9 (Eo9 0 0) ++ mW mo ma cs I Fm) ++ [(ou, .inl (cL, 1, .inr (.inl fo9)))])) hD [29, 30, 31, 32, 33, 34, 35, 36, 37, 38, 39, 40, 41, 42, 43, 44, 45, 46, 47, 48, 49, 50, 51, 52, 53, 54, 55, 56, 57, 0, 1, 2, 3, 4, 5, 6, 7, 8, 9, 10, 11, 12, 13, 14, 15, 16, 17, 18, 19, 20, 21, 22, 23, 24, 25, 26, 27, 28, 58] lq_3 rfl
  obtain ⟨hok9, hxG9, hPE9, hcost, ho9, hrel⟩ := hq
  have hrelF := fun (_ : Unit) => hrel
  clear hrel
  have hlc := lcC hcl (Nat.le_trans hcost.1 (by decide)) hk01
  have hls := lcS hsl (Nat.le_trans hcost.2 (by decide)) hk01
  refine W.eq (g2 := F0 m 165 ls [.int (iz q9)]) rfl ?_
  refine lv_istore (lv' := [(5, .int (iz q9)), (4, .int (iz (4 * k))), (3, .ref ou), (2, .ref mo), (1, .ref (o 15)), (0, .ref b)]) hx hb dL_law_165 hl (by decide) rfl (fun ls hl => ?_)
  refine lv_aload_n hx hb dL_law_167 rfl (lv_at hl 3 rfl) ?_
  refine lv_aload_n hx hb dL_law_168 rfl (lv_at hl 5 rfl) ?_
  refine lv_iload hx hb dL_law_169 (lv_at hl 1 rfl) ?_
  refine lv_iconst (v := iz 1) hx hb dL_law_171 (by decide) ?_
  refine ki_iadd hx hb dL_law_172 ?_
  refine va_sld hx hb hX hbl hbA hS (iz_in (by omega) (by omega) (by omega)) dL_law_173 ?_
  refine ki_is ea1 ?_
  refine lv_aload_n hx hb dL_law_174 rfl (lv_at hl 5 rfl) ?_
  refine lv_iload hx hb dL_law_175 (lv_at hl 1 rfl) ?_
  refine lv_iconst (v := iz 2) hx hb dL_law_177 (by decide) ?_
  refine ki_iadd hx hb dL_law_178 ?_
  refine va_sld hx hb hX hbl hbA hS (iz_in (by omega) (by omega) (by omega)) dL_law_179 ?_
  refine ki_is ea2 ?_
  have hPc := hP.sub (ws' := mW mo ma cs I Fm) [29, 30, 31, 32, 33, 34, 35, 36, 37, 38, 39, 40, 41, 42, 43, 44, 45, 46, 47, 48, 49, 50, 51, 52, 53, 54, 55, 56, 57] rfl
  have hDc := hD.sub (ws' := mW mo ma cs I Fm) [29, 30, 31, 32, 33, 34, 35, 36, 37, 38, 39, 40, 41, 42, 43, 44, 45, 46, 47, 48, 49, 50, 51, 52, 53, 54, 55, 56, 57] lq_1 rfl
  have hFc := va_free (wc := mW mo ma cs I Fm) hD hS hA [29, 30, 31, 32, 33, 34, 35, 36, 37, 38, 39, 40, 41, 42, 43, 44, 45, 46, 47, 48, 49, 50, 51, 52, 53, 54, 55, 56, 57] rfl
  have hKc := hK.sub (tys' := mT cs) [3, 4, 5, 6, 7, 8, 9, 10, 11, 12, 13, 14, 15, 16, 17, 18, 19, 20, 21, 22, 23, 24, 25, 26, 27, 28, 29, 30] rfl
  refine va_calli (va_runV (As := [.int (iz a1), .int (iz a2)]) (rest := []) ⟨hx, hb, hml, hown, hts⟩ (k_sign l dC dI mo ma cs I Fm a1 a2 H.size hI.1.hB hI.1.hc hI.1.hn (by omega) (by omega) (by omega) (by omega)) (cwV 2 hts (kx_gV kq_92_law_9 kq_92_law_10 kq_92_law_11 kq_04_msmall_6 kq_92_law_12 rfl) rfl rfl rfl (by decide +kernel) ⟨Nat.le_of_ble_eq_true rfl, Nat.le_of_ble_eq_true rfl⟩) ⟨kx_blind, va_recv hKc hPc (ci := 6) (q0 := 0) rfl rfl, kx_give (ws := []) (tys := []) hPc hDc hKc hG hZ hS hFc⟩ rfl rfl hl.1 rfl (lv_room (Nat.le_of_ble_eq_true rfl)) dL_law_180 ⟨show (cells + dn9) + 0 ≤ 600384 from (Nat.le_trans hlc.2 (by decide)), show (slots + dm9) + 0 ≤ 7291369 from (Nat.le_trans hls.2 (by decide))⟩) hS (fun q _ h => hFc q h) hFc (fun r u t H1 locs ht hvm hw hB hz1 hk1 hS => ?_)
  obtain ⟨rr1, J1, G1m⟩ := u
  obtain ⟨hP1, hK1, hD1⟩ := hB
  rw [ht] at hP1
  obtain ⟨e1, hw⟩ := hw
  subst e1
  try dsimp only at hw
  obtain ⟨hP, hD⟩ := va_joinQ (wr := xU cI cB cE o9 r9 n9 z9 F9 G9 (Eo9 0 0) ++ [(ou, .inl (cL, 1, .inr (.inl fo9)))]) (w1 := mW mo ma cs J1 G1m) hP hD [29, 30, 31, 32, 33, 34, 35, 36, 37, 38, 39, 40, 41, 42, 43, 44, 45, 46, 47, 48, 49, 50, 51, 52, 53, 54, 55, 56, 57] [0, 1, 2, 3, 4, 5, 6, 7, 8, 9, 10, 11, 12, 13, 14, 15, 16, 17, 18, 19, 20, 21, 22, 23, 24, 25, 26, 27, 28, 58] rfl rfl lq_0 lq_4 hk1 hFc hP1 hD1
  generalize H1 = H at hP hS ⊢
  have hP : va_P (dC, dI) kxCl (((xU cI cB cE o9 r9 n9 z9 F9 G9 (Eo9 0 0) ++ mW mo ma cs J1 G1m) ++ [(ou, .inl (cL, 1, .inr (.inl fo9)))]) ++ eP cI N9 Eo9 Er9 En9 Ez9 EF9) H := va_P.part (cx := ((xU cI cB cE o9 r9 n9 z9 F9 G9 (Eo9 0 0) ++ mW mo ma cs J1 G1m) ++ [(ou, .inl (cL, 1, .inr (.inl fo9)))])) hP [0, 1, 2, 3, 4, 5, 6, 7, 8, 9, 10, 11, 12, 13, 14, 15, 16, 17, 18, 19, 20, 21, 22, 23, 24, 25, 26, 27, 28, 30, 31, 32, 33, 34, 35, 36, 37, 38, 39, 40, 41, 42, 43, 44, 45, 46, 47, 48, 49, 50, 51, 52, 53, 54, 55, 56, 57, 58, 29] rfl
  have hD : va_D (fun q : Nat => s.heap.size ≤ q) (((xU cI cB cE o9 r9 n9 z9 F9 G9 (Eo9 0 0) ++ mW mo ma cs J1 G1m) ++ [(ou, .inl (cL, 1, .inr (.inl fo9)))]) ++ eP cI N9 Eo9 Er9 En9 Ez9 EF9) := va_D.part (cx := ((xU cI cB cE o9 r9 n9 z9 F9 G9 (Eo9 0 0) ++ mW mo ma cs J1 G1m) ++ [(ou, .inl (cL, 1, .inr (.inl fo9)))])) hD [0, 1, 2, 3, 4, 5, 6, 7, 8, 9, 10, 11, 12, 13, 14, 15, 16, 17, 18, 19, 20, 21, 22, 23, 24, 25, 26, 27, 28, 30, 31, 32, 33, 34, 35, 36, 37, 38, 39, 40, 41, 42, 43, 44, 45, 46, 47, 48, 49, 50, 51, 52, 53, 54, 55, 56, 57, 58, 29] lq_5 rfl
  obtain ⟨hcode, hans, hR9, hI9, hQ9, hW9⟩ := sw_sign hI hk01.2 hR hQ hW (wk_sign (hrelF ())) hw
  have hV9 := ss_sign hV (wk_sign (hrelF ())) hw
  obtain ⟨hPg9, hCk9⟩ := sp_sign hI hR hW hPg hCk (hrelF ()) hw
  have hY9 := sy_sign hYl (hrelF ()) hw
  have hO9 := so_sign hOl (hrelF ()) hw
  refine W.eq (g2 := F0 m 183 ls [.int (iz rr1)]) rfl ?_
  have hbq := hI9.1.hB.1 0
  refine lv_istore (lv' := [(6, .int (iz rr1)), (5, .int (iz q9)), (4, .int (iz (4 * k))), (3, .ref ou), (2, .ref mo), (1, .ref (o 15)), (0, .ref b)]) hx hb dL_law_183 hl (by decide) rfl (fun ls hl => ?_)
  refine lv_goto (tgt := 689) hx hb dL_law_185 (by decide) ?_
  exact kk o9 r9 n9 z9 F9 G9 N9 Eo9 Er9 En9 Ez9 EF9 fo9 J1 G1m H _ _ _ ls (ho9 15 (by decide) (by decide)) hok9 hxG9 hPE9 hI9 ⟨⟨⟨⟨hR9, hQ9, hW9, hV9⟩, hPg9, hCk9⟩, hY9⟩, hO9⟩ hP hD hS hlc.1 hls.1 (lv_sub hl [2, 3, 4, 5, 6] rfl)
set_option maxHeartbeats 4000000 in
set_option maxRecDepth 100000 in
theorem law_page {p : Program} {l : Launch} {e : Env} {s : State} {m : MethodId} {below : List Frame} {meth : Method} {c : Code} {b : Nat} {dC : Nat → ClassId} {dI : Nat → Nat → Nat} {cI cB cE cL : ClassId} {cs : Nat → ClassId} {mo : Nat} {ma : Nat → Nat} {ou xr : Nat} {L : Nat} {xs : Nat → Int32} {k : Int} (hlf : l.stackTraces = false) (C0 : lw_At p s m meth c b L xs) (hL : L ≤ 256) (hk : 0 ≤ k ∧ 4 * k + 4 ≤ (L : Int)) (hK : va_K (dC, dI) kxCl (lT cI cB cE cL cs) s) (kk : LW p l e s m below meth c b dC dI cI cB cE cL cs mo ma ou xr k (k + 1) 689) : LW p l e s m below meth c b dC dI cI cB cE cL cs mo ma ou xr k k 188 := by
  obtain ⟨hx, hb, hr, hml, hown, hts0, hX, hbl, hlocks, hgv⟩ := id C0
  have hown : s.vm.findClass RL = some m.cls := hown
  have hA : ∀ q : Nat, s.heap.size ≤ q → (fun q : Nat => s.heap.size ≤ q) q := fun _ h => h
  have hbA : ¬ (fun q : Nat => s.heap.size ≤ q) b := Nat.not_le.mpr hbl
  have hG : kx_G s := ⟨s, _, hts0, hgv, State.WarmedH.refl s⟩
  have hZ : kx_Z (fun q : Nat => s.heap.size ≤ q) s s.heap := law_Z hts0 hgv
  have hts := kx_hts (a := #[Value.ref b]) hG
  intro o r n z F G N Eo Er En Ez EF fo I Fm H locs cells slots ls hxr hok hxG hPE hI hR hP hD hS hcl hsl hl
  subst hxr
  obtain ⟨⟨hR, hYl⟩, hOl⟩ := hR
  obtain ⟨⟨hR, hQ, hW, hV⟩, hPg, hCk⟩ := hR
  obtain ⟨hN1, hN2, hN3, hN4⟩ := id hxG
  have hz78 := hR.2.1
  have hk64 := hI.2.1.1
  have hk01 : 0 ≤ k ∧ k < 64 := by omega
  obtain ⟨a1, ea1, a1l, a1h⟩ := iz_of (xs (iz (4 * k + 1)).toNatClampNeg)
  obtain ⟨a2, ea2, a2l, a2h⟩ := iz_of (xs (iz (4 * k + 2)).toNatClampNeg)
  obtain ⟨a3, ea3, a3l, a3h⟩ := iz_of (xs (iz (4 * k + 3)).toNatClampNeg)
  refine lv_aload_n hx hb dL_law_188 rfl (lv_at hl 3 rfl) ?_
  refine lv_aload_n hx hb dL_law_189 rfl (lv_at hl 4 rfl) ?_
  refine lv_iload hx hb dL_law_190 (lv_at hl 0 rfl) ?_
  refine lv_iconst (v := iz 1) hx hb dL_law_192 (by decide) ?_
  refine ki_iadd hx hb dL_law_193 ?_
  refine va_sld hx hb hX hbl hbA hS (iz_in (by omega) (by omega) (by omega)) dL_law_194 ?_
  refine ki_is ea1 ?_
  refine lv_aload_n hx hb dL_law_195 rfl (lv_at hl 4 rfl) ?_
  refine lv_iload hx hb dL_law_196 (lv_at hl 0 rfl) ?_
  refine lv_iconst (v := iz 2) hx hb dL_law_198 (by decide) ?_
  refine ki_iadd hx hb dL_law_199 ?_
  refine va_sld hx hb hX hbl hbA hS (iz_in (by omega) (by omega) (by omega)) dL_law_200 ?_
  refine ki_is ea2 ?_
  refine lv_aload_n hx hb dL_law_201 rfl (lv_at hl 4 rfl) ?_
  refine lv_iload hx hb dL_law_202 (lv_at hl 0 rfl) ?_
  refine lv_iconst (v := iz 3) hx hb dL_law_204 (by decide) ?_
  refine ki_iadd hx hb dL_law_205 ?_
  refine va_sld hx hb hX hbl hbA hS (iz_in (by omega) (by omega) (by omega)) dL_law_206 ?_
  refine ki_is ea3 ?_
  refine lv_aload_n hx hb dL_law_207 rfl (lv_at hl 1 rfl) ?_
  have hPc : va_P (dC, dI) kxCl ((xU cI cB cE o r n z F G (Eo 0 0) ++ [(ou, .inl (cL, 1, .inr (.inl fo)))]) ++ eP cI N Eo Er En Ez EF) H := va_P.part (cx := xU cI cB cE o r n z F G (Eo 0 0) ++ [(ou, .inl (cL, 1, .inr (.inl fo)))]) hP [0, 1, 2, 3, 4, 5, 6, 7, 8, 9, 10, 11, 12, 13, 14, 15, 16, 17, 18, 19, 20, 21, 22, 23, 24, 25, 26, 27, 28, 58] rfl
  have hDc : va_D (fun q : Nat => s.heap.size ≤ q) ((xU cI cB cE o r n z F G (Eo 0 0) ++ [(ou, .inl (cL, 1, .inr (.inl fo)))]) ++ eP cI N Eo Er En Ez EF) := va_D.part (cx := xU cI cB cE o r n z F G (Eo 0 0) ++ [(ou, .inl (cL, 1, .inr (.inl fo)))]) hD [0, 1, 2, 3, 4, 5, 6, 7, 8, 9, 10, 11, 12, 13, 14, 15, 16, 17, 18, 19, 20, 21, 22, 23, 24, 25, 26, 27, 28, 58] lq_0 rfl
  have hFc := va_freeP (cx := xU cI cB cE o r n z F G (Eo 0 0) ++ [(ou, .inl (cL, 1, .inr (.inl fo)))]) hD hS hA [0, 1, 2, 3, 4, 5, 6, 7, 8, 9, 10, 11, 12, 13, 14, 15, 16, 17, 18, 19, 20, 21, 22, 23, 24, 25, 26, 27, 28, 58] rfl
  have hKc := hK.sub (tys' := [(cI, .int), (cB, .byte), (cE, .object RX0), (cL, .long)]) [0, 1, 2, 31] rfl
  refine xk_call (vx_runSW (As := [.ref (o 15), .int (iz a1), .int (iz a2), .int (iz a3), .ref ou]) (rest := []) ⟨hx, hb, hml, hown, hts⟩ (h_page5 l hlf dC dI cI cB cE cL o r n z F G N Eo Er En Ez EF ou fo a1 a2 a3 H.size hok hxG hPE (by omega) (by omega) (by omega) (by omega) (by omega) (by omega)) (vx_cwSW 5 hts (kx_gS kq_92_law_13 kq_92_law_14 kq_92_law_2 kq_25_xhelp_16 rfl) rfl rfl rfl (by decide +kernel) ⟨Nat.le_of_ble_eq_true rfl, Nat.le_of_ble_eq_true rfl⟩) ⟨kx_blind, kx_give (ws := []) (tys := []) hPc hDc hKc hG hZ hS hFc⟩ rfl rfl hl.1 rfl (lv_room (Nat.le_of_ble_eq_true rfl)) dL_law_208 ⟨show cells + 200 ≤ 600384 from (by omega), show slots + 60000 ≤ 7291369 from (by omega)⟩) hS (fun q _ h => hFc q h) hFc (fun u dn9 dm9 t H1 locs ht hvm hq hB hk1 hS => ?_)
  obtain ⟨q9, fo9, o9, r9, n9, z9, F9, G9, N9, Eo9, Er9, En9, Ez9, EF9⟩ := u
  obtain ⟨hP1, hK1, hD1⟩ := hB
  rw [ht] at hP1
  try dsimp only at hq
  obtain ⟨hP, hD⟩ := va_joinP (wr := mW mo ma cs I Fm) (rx := xU cI cB cE o9 r9 n9 z9 F9 G9 (Eo9 0 0) ++ [(ou, .inl (cL, 1, .inr (.inl fo9)))]) (pl1 := eP cI N9 Eo9 Er9 En9 Ez9 EF9) hP hD [0, 1, 2, 3, 4, 5, 6, 7, 8, 9, 10, 11, 12, 13, 14, 15, 16, 17, 18, 19, 20, 21, 22, 23, 24, 25, 26, 27, 28, 58] [29, 30, 31, 32, 33, 34, 35, 36, 37, 38, 39, 40, 41, 42, 43, 44, 45, 46, 47, 48, 49, 50, 51, 52, 53, 54, 55, 56, 57] rfl rfl lq_1 lq_2 hk1 hFc hP1 hD1
  generalize H1 = H at hP hS ⊢
  have hP : va_P (dC, dI) kxCl (((xU cI cB cE o9 r9 n9 z9 F9 G9 (Eo9 0 0) ++ mW mo ma cs I Fm) ++ [(ou, .inl (cL, 1, .inr (.inl fo9)))]) ++ eP cI N9 Eo9 Er9 En9 Ez9 EF9) H := va_P.part (cx := ((xU cI cB cE o9 r9 n9 z9 F9 G9 (Eo9 0 0) ++ mW mo ma cs I Fm) ++ [(ou, .inl (cL, 1, .inr (.inl fo9)))])) hP [29, 30, 31, 32, 33, 34, 35, 36, 37, 38, 39, 40, 41, 42, 43, 44, 45, 46, 47, 48, 49, 50, 51, 52, 53, 54, 55, 56, 57, 0, 1, 2, 3, 4, 5, 6, 7, 8, 9, 10, 11, 12, 13, 14, 15, 16, 17, 18, 19, 20, 21, 22, 23, 24, 25, 26, 27, 28, 58] rfl
  have hD : va_D (fun q : Nat => s.heap.size ≤ q) (((xU cI cB cE o9 r9 n9 z9 F9 G9 (Eo9 0 0) ++ mW mo ma cs I Fm) ++ [(ou, .inl (cL, 1, .inr (.inl fo9)))]) ++ eP cI N9 Eo9 Er9 En9 Ez9 EF9) := va_D.part (cx := ((xU cI cB cE o9 r9 n9 z9 F9 G9 (Eo9 0 0) ++ mW mo ma cs I Fm) ++ [(ou, .inl (cL, 1, .inr (.inl fo9)))])) hD [29, 30, 31, 32, 33, 34, 35, 36, 37, 38, 39, 40, 41, 42, 43, 44, 45, 46, 47, 48, 49, 50, 51, 52, 53, 54, 55, 56, 57, 0, 1, 2, 3, 4, 5, 6, 7, 8, 9, 10, 11, 12, 13, 14, 15, 16, 17, 18, 19, 20, 21, 22, 23, 24, 25, 26, 27, 28, 58] lq_3 rfl
  obtain ⟨hok9, hxG9, hPE9, hcost, ho9, hrel⟩ := hq
  have hrelF := fun (_ : Unit) => hrel
  clear hrel
  have hlc := lcC hcl (Nat.le_trans hcost.1 (by decide)) hk01
  have hls := lcS hsl (Nat.le_trans hcost.2 (by decide)) hk01
  refine W.eq (g2 := F0 m 211 ls [.int (iz q9)]) rfl ?_
  refine lv_istore (lv' := [(5, .int (iz q9)), (4, .int (iz (4 * k))), (3, .ref ou), (2, .ref mo), (1, .ref (o 15)), (0, .ref b)]) hx hb dL_law_211 hl (by decide) rfl (fun ls hl => ?_)
  refine lv_aload_n hx hb dL_law_213 rfl (lv_at hl 3 rfl) ?_
  refine lv_aload_n hx hb dL_law_214 rfl (lv_at hl 5 rfl) ?_
  refine lv_iload hx hb dL_law_215 (lv_at hl 1 rfl) ?_
  refine lv_iconst (v := iz 1) hx hb dL_law_217 (by decide) ?_
  refine ki_iadd hx hb dL_law_218 ?_
  refine va_sld hx hb hX hbl hbA hS (iz_in (by omega) (by omega) (by omega)) dL_law_219 ?_
  refine ki_is ea1 ?_
  refine lv_aload_n hx hb dL_law_220 rfl (lv_at hl 5 rfl) ?_
  refine lv_iload hx hb dL_law_221 (lv_at hl 1 rfl) ?_
  refine lv_iconst (v := iz 2) hx hb dL_law_223 (by decide) ?_
  refine ki_iadd hx hb dL_law_224 ?_
  refine va_sld hx hb hX hbl hbA hS (iz_in (by omega) (by omega) (by omega)) dL_law_225 ?_
  refine ki_is ea2 ?_
  refine lv_aload_n hx hb dL_law_226 rfl (lv_at hl 5 rfl) ?_
  refine lv_iload hx hb dL_law_227 (lv_at hl 1 rfl) ?_
  refine lv_iconst (v := iz 3) hx hb dL_law_229 (by decide) ?_
  refine ki_iadd hx hb dL_law_230 ?_
  refine va_sld hx hb hX hbl hbA hS (iz_in (by omega) (by omega) (by omega)) dL_law_231 ?_
  refine ki_is ea3 ?_
  have hPc := hP.sub (ws' := mW mo ma cs I Fm) [29, 30, 31, 32, 33, 34, 35, 36, 37, 38, 39, 40, 41, 42, 43, 44, 45, 46, 47, 48, 49, 50, 51, 52, 53, 54, 55, 56, 57] rfl
  have hDc := hD.sub (ws' := mW mo ma cs I Fm) [29, 30, 31, 32, 33, 34, 35, 36, 37, 38, 39, 40, 41, 42, 43, 44, 45, 46, 47, 48, 49, 50, 51, 52, 53, 54, 55, 56, 57] lq_1 rfl
  have hFc := va_free (wc := mW mo ma cs I Fm) hD hS hA [29, 30, 31, 32, 33, 34, 35, 36, 37, 38, 39, 40, 41, 42, 43, 44, 45, 46, 47, 48, 49, 50, 51, 52, 53, 54, 55, 56, 57] rfl
  have hKc := hK.sub (tys' := mT cs) [3, 4, 5, 6, 7, 8, 9, 10, 11, 12, 13, 14, 15, 16, 17, 18, 19, 20, 21, 22, 23, 24, 25, 26, 27, 28, 29, 30] rfl
  refine va_calli (va_runV (As := [.int (iz a1), .int (iz a2), .int (iz a3)]) (rest := []) ⟨hx, hb, hml, hown, hts⟩ (k_page2 l dC dI mo ma cs I Fm a1 a2 a3 H.size hI.1.hB hI.1.hc hI.1.hln (by omega) (by omega) (by omega) (by omega) (by omega) (by omega)) (cwV 3 hts (kx_gV kq_92_law_15 kq_92_law_16 kq_92_law_17 kq_04_msmall_6 kq_92_law_18 rfl) rfl rfl rfl (by decide +kernel) ⟨Nat.le_of_ble_eq_true rfl, Nat.le_of_ble_eq_true rfl⟩) ⟨kx_blind, va_recv hKc hPc (ci := 6) (q0 := 0) rfl rfl, kx_give (ws := []) (tys := []) hPc hDc hKc hG hZ hS hFc⟩ rfl rfl hl.1 rfl (lv_room (Nat.le_of_ble_eq_true rfl)) dL_law_232 ⟨show (cells + dn9) + 0 ≤ 600384 from (Nat.le_trans hlc.2 (by decide)), show (slots + dm9) + 0 ≤ 7291369 from (Nat.le_trans hls.2 (by decide))⟩) hS (fun q _ h => hFc q h) hFc (fun r u t H1 locs ht hvm hw hB hz1 hk1 hS => ?_)
  obtain ⟨rr1, J1, G1m⟩ := u
  obtain ⟨hP1, hK1, hD1⟩ := hB
  rw [ht] at hP1
  obtain ⟨e1, hw⟩ := hw
  subst e1
  try dsimp only at hw
  obtain ⟨hP, hD⟩ := va_joinQ (wr := xU cI cB cE o9 r9 n9 z9 F9 G9 (Eo9 0 0) ++ [(ou, .inl (cL, 1, .inr (.inl fo9)))]) (w1 := mW mo ma cs J1 G1m) hP hD [29, 30, 31, 32, 33, 34, 35, 36, 37, 38, 39, 40, 41, 42, 43, 44, 45, 46, 47, 48, 49, 50, 51, 52, 53, 54, 55, 56, 57] [0, 1, 2, 3, 4, 5, 6, 7, 8, 9, 10, 11, 12, 13, 14, 15, 16, 17, 18, 19, 20, 21, 22, 23, 24, 25, 26, 27, 28, 58] rfl rfl lq_0 lq_4 hk1 hFc hP1 hD1
  generalize H1 = H at hP hS ⊢
  have hP : va_P (dC, dI) kxCl (((xU cI cB cE o9 r9 n9 z9 F9 G9 (Eo9 0 0) ++ mW mo ma cs J1 G1m) ++ [(ou, .inl (cL, 1, .inr (.inl fo9)))]) ++ eP cI N9 Eo9 Er9 En9 Ez9 EF9) H := va_P.part (cx := ((xU cI cB cE o9 r9 n9 z9 F9 G9 (Eo9 0 0) ++ mW mo ma cs J1 G1m) ++ [(ou, .inl (cL, 1, .inr (.inl fo9)))])) hP [0, 1, 2, 3, 4, 5, 6, 7, 8, 9, 10, 11, 12, 13, 14, 15, 16, 17, 18, 19, 20, 21, 22, 23, 24, 25, 26, 27, 28, 30, 31, 32, 33, 34, 35, 36, 37, 38, 39, 40, 41, 42, 43, 44, 45, 46, 47, 48, 49, 50, 51, 52, 53, 54, 55, 56, 57, 58, 29] rfl
  have hD : va_D (fun q : Nat => s.heap.size ≤ q) (((xU cI cB cE o9 r9 n9 z9 F9 G9 (Eo9 0 0) ++ mW mo ma cs J1 G1m) ++ [(ou, .inl (cL, 1, .inr (.inl fo9)))]) ++ eP cI N9 Eo9 Er9 En9 Ez9 EF9) := va_D.part (cx := ((xU cI cB cE o9 r9 n9 z9 F9 G9 (Eo9 0 0) ++ mW mo ma cs J1 G1m) ++ [(ou, .inl (cL, 1, .inr (.inl fo9)))])) hD [0, 1, 2, 3, 4, 5, 6, 7, 8, 9, 10, 11, 12, 13, 14, 15, 16, 17, 18, 19, 20, 21, 22, 23, 24, 25, 26, 27, 28, 30, 31, 32, 33, 34, 35, 36, 37, 38, 39, 40, 41, 42, 43, 44, 45, 46, 47, 48, 49, 50, 51, 52, 53, 54, 55, 56, 57, 58, 29] lq_5 rfl
  obtain ⟨hcode, hans, hR9, hI9, hQ9, hW9⟩ := sw_page hI hk01.2 hR hQ hW ⟨a2l, a2h⟩ (wk_page (hrelF ())) hw
  have hV9 := ss_page hV (wk_page (hrelF ())) hw
  obtain ⟨hPg9, hCk9⟩ := sp_page hI hR hW hPg hCk hcode (hrelF ()) hw
  have hY9 := sy_page hYl (hrelF ()) hw
  have hO9 := so_page hOl (hrelF ()) hw
  refine W.eq (g2 := F0 m 235 ls [.int (iz rr1)]) rfl ?_
  have hbq := hI9.1.hB.1 0
  refine lv_istore (lv' := [(6, .int (iz rr1)), (5, .int (iz q9)), (4, .int (iz (4 * k))), (3, .ref ou), (2, .ref mo), (1, .ref (o 15)), (0, .ref b)]) hx hb dL_law_235 hl (by decide) rfl (fun ls hl => ?_)
  refine lv_goto (tgt := 689) hx hb dL_law_237 (by decide) ?_
  exact kk o9 r9 n9 z9 F9 G9 N9 Eo9 Er9 En9 Ez9 EF9 fo9 J1 G1m H _ _ _ ls (ho9 15 (by decide) (by decide)) hok9 hxG9 hPE9 hI9 ⟨⟨⟨⟨hR9, hQ9, hW9, hV9⟩, hPg9, hCk9⟩, hY9⟩, hO9⟩ hP hD hS hlc.1 hls.1 (lv_sub hl [2, 3, 4, 5, 6] rfl)
set_option maxHeartbeats 4000000 in
set_option maxRecDepth 100000 in
theorem law_range {p : Program} {l : Launch} {e : Env} {s : State} {m : MethodId} {below : List Frame} {meth : Method} {c : Code} {b : Nat} {dC : Nat → ClassId} {dI : Nat → Nat → Nat} {cI cB cE cL : ClassId} {cs : Nat → ClassId} {mo : Nat} {ma : Nat → Nat} {ou xr : Nat} {L : Nat} {xs : Nat → Int32} {k : Int} (hlf : l.stackTraces = false) (C0 : lw_At p s m meth c b L xs) (hL : L ≤ 256) (hk : 0 ≤ k ∧ 4 * k + 4 ≤ (L : Int)) (hK : va_K (dC, dI) kxCl (lT cI cB cE cL cs) s) (kk : LW p l e s m below meth c b dC dI cI cB cE cL cs mo ma ou xr k (k + 1) 689) : LW p l e s m below meth c b dC dI cI cB cE cL cs mo ma ou xr k k 240 := by
  obtain ⟨hx, hb, hr, hml, hown, hts0, hX, hbl, hlocks, hgv⟩ := id C0
  have hown : s.vm.findClass RL = some m.cls := hown
  have hA : ∀ q : Nat, s.heap.size ≤ q → (fun q : Nat => s.heap.size ≤ q) q := fun _ h => h
  have hbA : ¬ (fun q : Nat => s.heap.size ≤ q) b := Nat.not_le.mpr hbl
  have hG : kx_G s := ⟨s, _, hts0, hgv, State.WarmedH.refl s⟩
  have hZ : kx_Z (fun q : Nat => s.heap.size ≤ q) s s.heap := law_Z hts0 hgv
  have hts := kx_hts (a := #[Value.ref b]) hG
  intro o r n z F G N Eo Er En Ez EF fo I Fm H locs cells slots ls hxr hok hxG hPE hI hR hP hD hS hcl hsl hl
  subst hxr
  obtain ⟨⟨hR, hYl⟩, hOl⟩ := hR
  obtain ⟨⟨hR, hQ, hW, hV⟩, hPg, hCk⟩ := hR
  obtain ⟨hN1, hN2, hN3, hN4⟩ := id hxG
  have hz78 := hR.2.1
  have hk64 := hI.2.1.1
  have hk01 : 0 ≤ k ∧ k < 64 := by omega
  obtain ⟨a1, ea1, a1l, a1h⟩ := iz_of (xs (iz (4 * k + 1)).toNatClampNeg)
  obtain ⟨a2, ea2, a2l, a2h⟩ := iz_of (xs (iz (4 * k + 2)).toNatClampNeg)
  obtain ⟨a3, ea3, a3l, a3h⟩ := iz_of (xs (iz (4 * k + 3)).toNatClampNeg)
  refine lv_aload_n hx hb dL_law_240 rfl (lv_at hl 3 rfl) ?_
  refine lv_aload_n hx hb dL_law_241 rfl (lv_at hl 4 rfl) ?_
  refine lv_iload hx hb dL_law_242 (lv_at hl 0 rfl) ?_
  refine lv_iconst (v := iz 1) hx hb dL_law_244 (by decide) ?_
  refine ki_iadd hx hb dL_law_245 ?_
  refine va_sld hx hb hX hbl hbA hS (iz_in (by omega) (by omega) (by omega)) dL_law_246 ?_
  refine ki_is ea1 ?_
  refine lv_aload_n hx hb dL_law_247 rfl (lv_at hl 4 rfl) ?_
  refine lv_iload hx hb dL_law_248 (lv_at hl 0 rfl) ?_
  refine lv_iconst (v := iz 2) hx hb dL_law_250 (by decide) ?_
  refine ki_iadd hx hb dL_law_251 ?_
  refine va_sld hx hb hX hbl hbA hS (iz_in (by omega) (by omega) (by omega)) dL_law_252 ?_
  refine ki_is ea2 ?_
  refine lv_aload_n hx hb dL_law_253 rfl (lv_at hl 4 rfl) ?_
  refine lv_iload hx hb dL_law_254 (lv_at hl 0 rfl) ?_
  refine lv_iconst (v := iz 3) hx hb dL_law_256 (by decide) ?_
  refine ki_iadd hx hb dL_law_257 ?_
  refine va_sld hx hb hX hbl hbA hS (iz_in (by omega) (by omega) (by omega)) dL_law_258 ?_
  refine ki_is ea3 ?_
  refine ki_if_eq (tgt := 266) hx hb dL_law_259 (by decide) (by omega) (by omega) (fun c_1 => ?_) (fun c_1 => ?_)
  · skip
    refine lv_iconst (v := iz 0) hx hb dL_law_266 (by decide) ?_
    refine lv_aload_n hx hb dL_law_267 rfl (lv_at hl 1 rfl) ?_
    have hPc : va_P (dC, dI) kxCl ((xU cI cB cE o r n z F G (Eo 0 0) ++ [(ou, .inl (cL, 1, .inr (.inl fo)))]) ++ eP cI N Eo Er En Ez EF) H := va_P.part (cx := xU cI cB cE o r n z F G (Eo 0 0) ++ [(ou, .inl (cL, 1, .inr (.inl fo)))]) hP [0, 1, 2, 3, 4, 5, 6, 7, 8, 9, 10, 11, 12, 13, 14, 15, 16, 17, 18, 19, 20, 21, 22, 23, 24, 25, 26, 27, 28, 58] rfl
    have hDc : va_D (fun q : Nat => s.heap.size ≤ q) ((xU cI cB cE o r n z F G (Eo 0 0) ++ [(ou, .inl (cL, 1, .inr (.inl fo)))]) ++ eP cI N Eo Er En Ez EF) := va_D.part (cx := xU cI cB cE o r n z F G (Eo 0 0) ++ [(ou, .inl (cL, 1, .inr (.inl fo)))]) hD [0, 1, 2, 3, 4, 5, 6, 7, 8, 9, 10, 11, 12, 13, 14, 15, 16, 17, 18, 19, 20, 21, 22, 23, 24, 25, 26, 27, 28, 58] lq_0 rfl
    have hFc := va_freeP (cx := xU cI cB cE o r n z F G (Eo 0 0) ++ [(ou, .inl (cL, 1, .inr (.inl fo)))]) hD hS hA [0, 1, 2, 3, 4, 5, 6, 7, 8, 9, 10, 11, 12, 13, 14, 15, 16, 17, 18, 19, 20, 21, 22, 23, 24, 25, 26, 27, 28, 58] rfl
    have hKc := hK.sub (tys' := [(cI, .int), (cB, .byte), (cE, .object RX0), (cL, .long)]) [0, 1, 2, 31] rfl
    refine xk_call (vx_runSW (As := [.ref (o 15), .int (iz a1), .int (iz a2), .int (iz 0), .ref ou]) (rest := []) ⟨hx, hb, hml, hown, hts⟩ (h_range5 l hlf dC dI cI cB cE cL o r n z F G N Eo Er En Ez EF ou fo a1 a2 0 H.size hok hxG hPE (by omega) (by omega) (by omega) (by omega) (by omega) (hPg.z9 hR)) (vx_cwSW 5 hts (kx_gS kq_92_law_19 kq_92_law_20 kq_92_law_2 kq_25_xhelp_21 rfl) rfl rfl rfl (by decide +kernel) ⟨Nat.le_of_ble_eq_true rfl, Nat.le_of_ble_eq_true rfl⟩) ⟨kx_blind, kx_give (ws := []) (tys := []) hPc hDc hKc hG hZ hS hFc⟩ rfl rfl hl.1 rfl (lv_room (Nat.le_of_ble_eq_true rfl)) dL_law_268 ⟨show cells + 200 ≤ 600384 from (by omega), show slots + 60000 ≤ 7291369 from (by omega)⟩) hS (fun q _ h => hFc q h) hFc (fun u dn9 dm9 t H1 locs ht hvm hq hB hk1 hS => ?_)
    obtain ⟨q9, fo9, o9, r9, n9, z9, F9, G9, N9, Eo9, Er9, En9, Ez9, EF9⟩ := u
    obtain ⟨hP1, hK1, hD1⟩ := hB
    rw [ht] at hP1
    try dsimp only at hq
    obtain ⟨hP, hD⟩ := va_joinP (wr := mW mo ma cs I Fm) (rx := xU cI cB cE o9 r9 n9 z9 F9 G9 (Eo9 0 0) ++ [(ou, .inl (cL, 1, .inr (.inl fo9)))]) (pl1 := eP cI N9 Eo9 Er9 En9 Ez9 EF9) hP hD [0, 1, 2, 3, 4, 5, 6, 7, 8, 9, 10, 11, 12, 13, 14, 15, 16, 17, 18, 19, 20, 21, 22, 23, 24, 25, 26, 27, 28, 58] [29, 30, 31, 32, 33, 34, 35, 36, 37, 38, 39, 40, 41, 42, 43, 44, 45, 46, 47, 48, 49, 50, 51, 52, 53, 54, 55, 56, 57] rfl rfl lq_1 lq_2 hk1 hFc hP1 hD1
    generalize H1 = H at hP hS ⊢
    have hP : va_P (dC, dI) kxCl (((xU cI cB cE o9 r9 n9 z9 F9 G9 (Eo9 0 0) ++ mW mo ma cs I Fm) ++ [(ou, .inl (cL, 1, .inr (.inl fo9)))]) ++ eP cI N9 Eo9 Er9 En9 Ez9 EF9) H := va_P.part (cx := ((xU cI cB cE o9 r9 n9 z9 F9 G9 (Eo9 0 0) ++ mW mo ma cs I Fm) ++ [(ou, .inl (cL, 1, .inr (.inl fo9)))])) hP [29, 30, 31, 32, 33, 34, 35, 36, 37, 38, 39, 40, 41, 42, 43, 44, 45, 46, 47, 48, 49, 50, 51, 52, 53, 54, 55, 56, 57, 0, 1, 2, 3, 4, 5, 6, 7, 8, 9, 10, 11, 12, 13, 14, 15, 16, 17, 18, 19, 20, 21, 22, 23, 24, 25, 26, 27, 28, 58] rfl
    have hD : va_D (fun q : Nat => s.heap.size ≤ q) (((xU cI cB cE o9 r9 n9 z9 F9 G9 (Eo9 0 0) ++ mW mo ma cs I Fm) ++ [(ou, .inl (cL, 1, .inr (.inl fo9)))]) ++ eP cI N9 Eo9 Er9 En9 Ez9 EF9) := va_D.part (cx := ((xU cI cB cE o9 r9 n9 z9 F9 G9 (Eo9 0 0) ++ mW mo ma cs I Fm) ++ [(ou, .inl (cL, 1, .inr (.inl fo9)))])) hD [29, 30, 31, 32, 33, 34, 35, 36, 37, 38, 39, 40, 41, 42, 43, 44, 45, 46, 47, 48, 49, 50, 51, 52, 53, 54, 55, 56, 57, 0, 1, 2, 3, 4, 5, 6, 7, 8, 9, 10, 11, 12, 13, 14, 15, 16, 17, 18, 19, 20, 21, 22, 23, 24, 25, 26, 27, 28, 58] lq_3 rfl
    obtain ⟨hok9, hxG9, hPE9, hcost, ho9, hrel⟩ := hq
    have hrelF := fun (_ : Unit) => hrel
    clear hrel
    have hlc := lcC hcl (Nat.le_trans hcost.1 (by decide)) hk01
    have hls := lcS hsl (Nat.le_trans hcost.2 (by decide)) hk01
    refine W.eq (g2 := F0 m 271 ls [.int (iz q9)]) rfl ?_
    refine lv_istore (lv' := [(5, .int (iz q9)), (4, .int (iz (4 * k))), (3, .ref ou), (2, .ref mo), (1, .ref (o 15)), (0, .ref b)]) hx hb dL_law_271 hl (by decide) rfl (fun ls hl => ?_)
    refine lv_aload_n hx hb dL_law_273 rfl (lv_at hl 3 rfl) ?_
    refine lv_aload_n hx hb dL_law_274 rfl (lv_at hl 5 rfl) ?_
    refine lv_iload hx hb dL_law_275 (lv_at hl 1 rfl) ?_
    refine lv_iconst (v := iz 1) hx hb dL_law_277 (by decide) ?_
    refine ki_iadd hx hb dL_law_278 ?_
    refine va_sld hx hb hX hbl hbA hS (iz_in (by omega) (by omega) (by omega)) dL_law_279 ?_
    refine ki_is ea1 ?_
    refine lv_aload_n hx hb dL_law_280 rfl (lv_at hl 5 rfl) ?_
    refine lv_iload hx hb dL_law_281 (lv_at hl 1 rfl) ?_
    refine lv_iconst (v := iz 2) hx hb dL_law_283 (by decide) ?_
    refine ki_iadd hx hb dL_law_284 ?_
    refine va_sld hx hb hX hbl hbA hS (iz_in (by omega) (by omega) (by omega)) dL_law_285 ?_
    refine ki_is ea2 ?_
    refine lv_aload_n hx hb dL_law_286 rfl (lv_at hl 5 rfl) ?_
    refine lv_iload hx hb dL_law_287 (lv_at hl 1 rfl) ?_
    refine lv_iconst (v := iz 3) hx hb dL_law_289 (by decide) ?_
    refine ki_iadd hx hb dL_law_290 ?_
    refine va_sld hx hb hX hbl hbA hS (iz_in (by omega) (by omega) (by omega)) dL_law_291 ?_
    refine ki_is ea3 ?_
    refine ki_if_eq (tgt := 299) hx hb dL_law_292 (by decide) (by omega) (by omega) (fun c_2 => ?_) (fun c_2 => ?_)
    · skip
      refine lv_iconst (v := iz 0) hx hb dL_law_299 (by decide) ?_
      have hPc := hP.sub (ws' := mW mo ma cs I Fm) [29, 30, 31, 32, 33, 34, 35, 36, 37, 38, 39, 40, 41, 42, 43, 44, 45, 46, 47, 48, 49, 50, 51, 52, 53, 54, 55, 56, 57] rfl
      have hDc := hD.sub (ws' := mW mo ma cs I Fm) [29, 30, 31, 32, 33, 34, 35, 36, 37, 38, 39, 40, 41, 42, 43, 44, 45, 46, 47, 48, 49, 50, 51, 52, 53, 54, 55, 56, 57] lq_1 rfl
      have hFc := va_free (wc := mW mo ma cs I Fm) hD hS hA [29, 30, 31, 32, 33, 34, 35, 36, 37, 38, 39, 40, 41, 42, 43, 44, 45, 46, 47, 48, 49, 50, 51, 52, 53, 54, 55, 56, 57] rfl
      have hKc := hK.sub (tys' := mT cs) [3, 4, 5, 6, 7, 8, 9, 10, 11, 12, 13, 14, 15, 16, 17, 18, 19, 20, 21, 22, 23, 24, 25, 26, 27, 28, 29, 30] rfl
      refine va_calli (va_runV (As := [.int (iz a1), .int (iz a2), .int (iz 0)]) (rest := []) ⟨hx, hb, hml, hown, hts⟩ (k_range l dC dI mo ma cs I Fm a1 a2 0 H.size hI.1.hB hI.1.hc hI.1.hln (by omega) (by omega) (by omega) (by omega) (by omega) (by omega)) (cwV 3 hts (kx_gV kq_92_law_21 kq_92_law_22 kq_92_law_23 kq_04_msmall_6 kq_92_law_24 rfl) rfl rfl rfl (by decide +kernel) ⟨Nat.le_of_ble_eq_true rfl, Nat.le_of_ble_eq_true rfl⟩) ⟨kx_blind, va_recv hKc hPc (ci := 6) (q0 := 0) rfl rfl, kx_give (ws := []) (tys := []) hPc hDc hKc hG hZ hS hFc⟩ rfl rfl hl.1 rfl (lv_room (Nat.le_of_ble_eq_true rfl)) dL_law_300 ⟨show (cells + dn9) + 0 ≤ 600384 from (Nat.le_trans hlc.2 (by decide)), show (slots + dm9) + 0 ≤ 7291369 from (Nat.le_trans hls.2 (by decide))⟩) hS (fun q _ h => hFc q h) hFc (fun r u t H1 locs ht hvm hw hB hz1 hk1 hS => ?_)
      obtain ⟨rr3, J3, G3m⟩ := u
      obtain ⟨hP1, hK1, hD1⟩ := hB
      rw [ht] at hP1
      obtain ⟨e1, hw⟩ := hw
      subst e1
      try dsimp only at hw
      obtain ⟨hP, hD⟩ := va_joinQ (wr := xU cI cB cE o9 r9 n9 z9 F9 G9 (Eo9 0 0) ++ [(ou, .inl (cL, 1, .inr (.inl fo9)))]) (w1 := mW mo ma cs J3 G3m) hP hD [29, 30, 31, 32, 33, 34, 35, 36, 37, 38, 39, 40, 41, 42, 43, 44, 45, 46, 47, 48, 49, 50, 51, 52, 53, 54, 55, 56, 57] [0, 1, 2, 3, 4, 5, 6, 7, 8, 9, 10, 11, 12, 13, 14, 15, 16, 17, 18, 19, 20, 21, 22, 23, 24, 25, 26, 27, 28, 58] rfl rfl lq_0 lq_4 hk1 hFc hP1 hD1
      generalize H1 = H at hP hS ⊢
      have hP : va_P (dC, dI) kxCl (((xU cI cB cE o9 r9 n9 z9 F9 G9 (Eo9 0 0) ++ mW mo ma cs J3 G3m) ++ [(ou, .inl (cL, 1, .inr (.inl fo9)))]) ++ eP cI N9 Eo9 Er9 En9 Ez9 EF9) H := va_P.part (cx := ((xU cI cB cE o9 r9 n9 z9 F9 G9 (Eo9 0 0) ++ mW mo ma cs J3 G3m) ++ [(ou, .inl (cL, 1, .inr (.inl fo9)))])) hP [0, 1, 2, 3, 4, 5, 6, 7, 8, 9, 10, 11, 12, 13, 14, 15, 16, 17, 18, 19, 20, 21, 22, 23, 24, 25, 26, 27, 28, 30, 31, 32, 33, 34, 35, 36, 37, 38, 39, 40, 41, 42, 43, 44, 45, 46, 47, 48, 49, 50, 51, 52, 53, 54, 55, 56, 57, 58, 29] rfl
      have hD : va_D (fun q : Nat => s.heap.size ≤ q) (((xU cI cB cE o9 r9 n9 z9 F9 G9 (Eo9 0 0) ++ mW mo ma cs J3 G3m) ++ [(ou, .inl (cL, 1, .inr (.inl fo9)))]) ++ eP cI N9 Eo9 Er9 En9 Ez9 EF9) := va_D.part (cx := ((xU cI cB cE o9 r9 n9 z9 F9 G9 (Eo9 0 0) ++ mW mo ma cs J3 G3m) ++ [(ou, .inl (cL, 1, .inr (.inl fo9)))])) hD [0, 1, 2, 3, 4, 5, 6, 7, 8, 9, 10, 11, 12, 13, 14, 15, 16, 17, 18, 19, 20, 21, 22, 23, 24, 25, 26, 27, 28, 30, 31, 32, 33, 34, 35, 36, 37, 38, 39, 40, 41, 42, 43, 44, 45, 46, 47, 48, 49, 50, 51, 52, 53, 54, 55, 56, 57, 58, 29] lq_5 rfl
      obtain ⟨hcode, hans, hR9, hI9, hQ9, hW9⟩ := sw_range hI hk01.2 hR hQ hW (by decide) (wk_range (hrelF ())) hw
      have hV9 := ss_range hV (wk_range (hrelF ())) hw
      obtain ⟨hPg9, hCk9⟩ := sp_range hI hR hW hPg hCk (by decide) hcode (hrelF ()) hw
      have hY9 := sy_range hYl (hrelF ()) hw
      have hO9 := so_range hOl (hrelF ()) hw
      refine W.eq (g2 := F0 m 303 ls [.int (iz rr3)]) rfl ?_
      have hbq := hI9.1.hB.1 0
      refine lv_istore (lv' := [(6, .int (iz rr3)), (5, .int (iz q9)), (4, .int (iz (4 * k))), (3, .ref ou), (2, .ref mo), (1, .ref (o 15)), (0, .ref b)]) hx hb dL_law_303 hl (by decide) rfl (fun ls hl => ?_)
      refine lv_goto (tgt := 689) hx hb dL_law_305 (by decide) ?_
      exact kk o9 r9 n9 z9 F9 G9 N9 Eo9 Er9 En9 Ez9 EF9 fo9 J3 G3m H _ _ _ ls (ho9 15 (by decide) (by decide)) hok9 hxG9 hPE9 hI9 ⟨⟨⟨⟨hR9, hQ9, hW9, hV9⟩, hPg9, hCk9⟩, hY9⟩, hO9⟩ hP hD hS hlc.1 hls.1 (lv_sub hl [2, 3, 4, 5, 6] rfl)
    · omega
  · skip
    refine lv_iconst (v := iz 1) hx hb dL_law_262 (by decide) ?_
    refine lv_goto (tgt := 267) hx hb dL_law_263 (by decide) ?_
    refine lv_aload_n hx hb dL_law_267 rfl (lv_at hl 1 rfl) ?_
    have hPc : va_P (dC, dI) kxCl ((xU cI cB cE o r n z F G (Eo 0 0) ++ [(ou, .inl (cL, 1, .inr (.inl fo)))]) ++ eP cI N Eo Er En Ez EF) H := va_P.part (cx := xU cI cB cE o r n z F G (Eo 0 0) ++ [(ou, .inl (cL, 1, .inr (.inl fo)))]) hP [0, 1, 2, 3, 4, 5, 6, 7, 8, 9, 10, 11, 12, 13, 14, 15, 16, 17, 18, 19, 20, 21, 22, 23, 24, 25, 26, 27, 28, 58] rfl
    have hDc : va_D (fun q : Nat => s.heap.size ≤ q) ((xU cI cB cE o r n z F G (Eo 0 0) ++ [(ou, .inl (cL, 1, .inr (.inl fo)))]) ++ eP cI N Eo Er En Ez EF) := va_D.part (cx := xU cI cB cE o r n z F G (Eo 0 0) ++ [(ou, .inl (cL, 1, .inr (.inl fo)))]) hD [0, 1, 2, 3, 4, 5, 6, 7, 8, 9, 10, 11, 12, 13, 14, 15, 16, 17, 18, 19, 20, 21, 22, 23, 24, 25, 26, 27, 28, 58] lq_0 rfl
    have hFc := va_freeP (cx := xU cI cB cE o r n z F G (Eo 0 0) ++ [(ou, .inl (cL, 1, .inr (.inl fo)))]) hD hS hA [0, 1, 2, 3, 4, 5, 6, 7, 8, 9, 10, 11, 12, 13, 14, 15, 16, 17, 18, 19, 20, 21, 22, 23, 24, 25, 26, 27, 28, 58] rfl
    have hKc := hK.sub (tys' := [(cI, .int), (cB, .byte), (cE, .object RX0), (cL, .long)]) [0, 1, 2, 31] rfl
    refine xk_call (vx_runSW (As := [.ref (o 15), .int (iz a1), .int (iz a2), .int (iz 1), .ref ou]) (rest := []) ⟨hx, hb, hml, hown, hts⟩ (h_range5 l hlf dC dI cI cB cE cL o r n z F G N Eo Er En Ez EF ou fo a1 a2 1 H.size hok hxG hPE (by omega) (by omega) (by omega) (by omega) (by omega) (hPg.z9 hR)) (vx_cwSW 5 hts (kx_gS kq_92_law_19 kq_92_law_20 kq_92_law_2 kq_25_xhelp_21 rfl) rfl rfl rfl (by decide +kernel) ⟨Nat.le_of_ble_eq_true rfl, Nat.le_of_ble_eq_true rfl⟩) ⟨kx_blind, kx_give (ws := []) (tys := []) hPc hDc hKc hG hZ hS hFc⟩ rfl rfl hl.1 rfl (lv_room (Nat.le_of_ble_eq_true rfl)) dL_law_268 ⟨show cells + 200 ≤ 600384 from (by omega), show slots + 60000 ≤ 7291369 from (by omega)⟩) hS (fun q _ h => hFc q h) hFc (fun u dn9 dm9 t H1 locs ht hvm hq hB hk1 hS => ?_)
    obtain ⟨q9, fo9, o9, r9, n9, z9, F9, G9, N9, Eo9, Er9, En9, Ez9, EF9⟩ := u
    obtain ⟨hP1, hK1, hD1⟩ := hB
    rw [ht] at hP1
    try dsimp only at hq
    obtain ⟨hP, hD⟩ := va_joinP (wr := mW mo ma cs I Fm) (rx := xU cI cB cE o9 r9 n9 z9 F9 G9 (Eo9 0 0) ++ [(ou, .inl (cL, 1, .inr (.inl fo9)))]) (pl1 := eP cI N9 Eo9 Er9 En9 Ez9 EF9) hP hD [0, 1, 2, 3, 4, 5, 6, 7, 8, 9, 10, 11, 12, 13, 14, 15, 16, 17, 18, 19, 20, 21, 22, 23, 24, 25, 26, 27, 28, 58] [29, 30, 31, 32, 33, 34, 35, 36, 37, 38, 39, 40, 41, 42, 43, 44, 45, 46, 47, 48, 49, 50, 51, 52, 53, 54, 55, 56, 57] rfl rfl lq_1 lq_2 hk1 hFc hP1 hD1
    generalize H1 = H at hP hS ⊢
    have hP : va_P (dC, dI) kxCl (((xU cI cB cE o9 r9 n9 z9 F9 G9 (Eo9 0 0) ++ mW mo ma cs I Fm) ++ [(ou, .inl (cL, 1, .inr (.inl fo9)))]) ++ eP cI N9 Eo9 Er9 En9 Ez9 EF9) H := va_P.part (cx := ((xU cI cB cE o9 r9 n9 z9 F9 G9 (Eo9 0 0) ++ mW mo ma cs I Fm) ++ [(ou, .inl (cL, 1, .inr (.inl fo9)))])) hP [29, 30, 31, 32, 33, 34, 35, 36, 37, 38, 39, 40, 41, 42, 43, 44, 45, 46, 47, 48, 49, 50, 51, 52, 53, 54, 55, 56, 57, 0, 1, 2, 3, 4, 5, 6, 7, 8, 9, 10, 11, 12, 13, 14, 15, 16, 17, 18, 19, 20, 21, 22, 23, 24, 25, 26, 27, 28, 58] rfl
    have hD : va_D (fun q : Nat => s.heap.size ≤ q) (((xU cI cB cE o9 r9 n9 z9 F9 G9 (Eo9 0 0) ++ mW mo ma cs I Fm) ++ [(ou, .inl (cL, 1, .inr (.inl fo9)))]) ++ eP cI N9 Eo9 Er9 En9 Ez9 EF9) := va_D.part (cx := ((xU cI cB cE o9 r9 n9 z9 F9 G9 (Eo9 0 0) ++ mW mo ma cs I Fm) ++ [(ou, .inl (cL, 1, .inr (.inl fo9)))])) hD [29, 30, 31, 32, 33, 34, 35, 36, 37, 38, 39, 40, 41, 42, 43, 44, 45, 46, 47, 48, 49, 50, 51, 52, 53, 54, 55, 56, 57, 0, 1, 2, 3, 4, 5, 6, 7, 8, 9, 10, 11, 12, 13, 14, 15, 16, 17, 18, 19, 20, 21, 22, 23, 24, 25, 26, 27, 28, 58] lq_3 rfl
    obtain ⟨hok9, hxG9, hPE9, hcost, ho9, hrel⟩ := hq
    have hrelF := fun (_ : Unit) => hrel
    clear hrel
    have hlc := lcC hcl (Nat.le_trans hcost.1 (by decide)) hk01
    have hls := lcS hsl (Nat.le_trans hcost.2 (by decide)) hk01
    refine W.eq (g2 := F0 m 271 ls [.int (iz q9)]) rfl ?_
    refine lv_istore (lv' := [(5, .int (iz q9)), (4, .int (iz (4 * k))), (3, .ref ou), (2, .ref mo), (1, .ref (o 15)), (0, .ref b)]) hx hb dL_law_271 hl (by decide) rfl (fun ls hl => ?_)
    refine lv_aload_n hx hb dL_law_273 rfl (lv_at hl 3 rfl) ?_
    refine lv_aload_n hx hb dL_law_274 rfl (lv_at hl 5 rfl) ?_
    refine lv_iload hx hb dL_law_275 (lv_at hl 1 rfl) ?_
    refine lv_iconst (v := iz 1) hx hb dL_law_277 (by decide) ?_
    refine ki_iadd hx hb dL_law_278 ?_
    refine va_sld hx hb hX hbl hbA hS (iz_in (by omega) (by omega) (by omega)) dL_law_279 ?_
    refine ki_is ea1 ?_
    refine lv_aload_n hx hb dL_law_280 rfl (lv_at hl 5 rfl) ?_
    refine lv_iload hx hb dL_law_281 (lv_at hl 1 rfl) ?_
    refine lv_iconst (v := iz 2) hx hb dL_law_283 (by decide) ?_
    refine ki_iadd hx hb dL_law_284 ?_
    refine va_sld hx hb hX hbl hbA hS (iz_in (by omega) (by omega) (by omega)) dL_law_285 ?_
    refine ki_is ea2 ?_
    refine lv_aload_n hx hb dL_law_286 rfl (lv_at hl 5 rfl) ?_
    refine lv_iload hx hb dL_law_287 (lv_at hl 1 rfl) ?_
    refine lv_iconst (v := iz 3) hx hb dL_law_289 (by decide) ?_
    refine ki_iadd hx hb dL_law_290 ?_
    refine va_sld hx hb hX hbl hbA hS (iz_in (by omega) (by omega) (by omega)) dL_law_291 ?_
    refine ki_is ea3 ?_
    refine ki_if_eq (tgt := 299) hx hb dL_law_292 (by decide) (by omega) (by omega) (fun c_4 => ?_) (fun c_4 => ?_)
    · omega
    · skip
      refine lv_iconst (v := iz 1) hx hb dL_law_295 (by decide) ?_
      refine lv_goto (tgt := 300) hx hb dL_law_296 (by decide) ?_
      have hPc := hP.sub (ws' := mW mo ma cs I Fm) [29, 30, 31, 32, 33, 34, 35, 36, 37, 38, 39, 40, 41, 42, 43, 44, 45, 46, 47, 48, 49, 50, 51, 52, 53, 54, 55, 56, 57] rfl
      have hDc := hD.sub (ws' := mW mo ma cs I Fm) [29, 30, 31, 32, 33, 34, 35, 36, 37, 38, 39, 40, 41, 42, 43, 44, 45, 46, 47, 48, 49, 50, 51, 52, 53, 54, 55, 56, 57] lq_1 rfl
      have hFc := va_free (wc := mW mo ma cs I Fm) hD hS hA [29, 30, 31, 32, 33, 34, 35, 36, 37, 38, 39, 40, 41, 42, 43, 44, 45, 46, 47, 48, 49, 50, 51, 52, 53, 54, 55, 56, 57] rfl
      have hKc := hK.sub (tys' := mT cs) [3, 4, 5, 6, 7, 8, 9, 10, 11, 12, 13, 14, 15, 16, 17, 18, 19, 20, 21, 22, 23, 24, 25, 26, 27, 28, 29, 30] rfl
      refine va_calli (va_runV (As := [.int (iz a1), .int (iz a2), .int (iz 1)]) (rest := []) ⟨hx, hb, hml, hown, hts⟩ (k_range l dC dI mo ma cs I Fm a1 a2 1 H.size hI.1.hB hI.1.hc hI.1.hln (by omega) (by omega) (by omega) (by omega) (by omega) (by omega)) (cwV 3 hts (kx_gV kq_92_law_21 kq_92_law_22 kq_92_law_23 kq_04_msmall_6 kq_92_law_24 rfl) rfl rfl rfl (by decide +kernel) ⟨Nat.le_of_ble_eq_true rfl, Nat.le_of_ble_eq_true rfl⟩) ⟨kx_blind, va_recv hKc hPc (ci := 6) (q0 := 0) rfl rfl, kx_give (ws := []) (tys := []) hPc hDc hKc hG hZ hS hFc⟩ rfl rfl hl.1 rfl (lv_room (Nat.le_of_ble_eq_true rfl)) dL_law_300 ⟨show (cells + dn9) + 0 ≤ 600384 from (Nat.le_trans hlc.2 (by decide)), show (slots + dm9) + 0 ≤ 7291369 from (Nat.le_trans hls.2 (by decide))⟩) hS (fun q _ h => hFc q h) hFc (fun r u t H1 locs ht hvm hw hB hz1 hk1 hS => ?_)
      obtain ⟨rr5, J5, G5m⟩ := u
      obtain ⟨hP1, hK1, hD1⟩ := hB
      rw [ht] at hP1
      obtain ⟨e1, hw⟩ := hw
      subst e1
      try dsimp only at hw
      obtain ⟨hP, hD⟩ := va_joinQ (wr := xU cI cB cE o9 r9 n9 z9 F9 G9 (Eo9 0 0) ++ [(ou, .inl (cL, 1, .inr (.inl fo9)))]) (w1 := mW mo ma cs J5 G5m) hP hD [29, 30, 31, 32, 33, 34, 35, 36, 37, 38, 39, 40, 41, 42, 43, 44, 45, 46, 47, 48, 49, 50, 51, 52, 53, 54, 55, 56, 57] [0, 1, 2, 3, 4, 5, 6, 7, 8, 9, 10, 11, 12, 13, 14, 15, 16, 17, 18, 19, 20, 21, 22, 23, 24, 25, 26, 27, 28, 58] rfl rfl lq_0 lq_4 hk1 hFc hP1 hD1
      generalize H1 = H at hP hS ⊢
      have hP : va_P (dC, dI) kxCl (((xU cI cB cE o9 r9 n9 z9 F9 G9 (Eo9 0 0) ++ mW mo ma cs J5 G5m) ++ [(ou, .inl (cL, 1, .inr (.inl fo9)))]) ++ eP cI N9 Eo9 Er9 En9 Ez9 EF9) H := va_P.part (cx := ((xU cI cB cE o9 r9 n9 z9 F9 G9 (Eo9 0 0) ++ mW mo ma cs J5 G5m) ++ [(ou, .inl (cL, 1, .inr (.inl fo9)))])) hP [0, 1, 2, 3, 4, 5, 6, 7, 8, 9, 10, 11, 12, 13, 14, 15, 16, 17, 18, 19, 20, 21, 22, 23, 24, 25, 26, 27, 28, 30, 31, 32, 33, 34, 35, 36, 37, 38, 39, 40, 41, 42, 43, 44, 45, 46, 47, 48, 49, 50, 51, 52, 53, 54, 55, 56, 57, 58, 29] rfl
      have hD : va_D (fun q : Nat => s.heap.size ≤ q) (((xU cI cB cE o9 r9 n9 z9 F9 G9 (Eo9 0 0) ++ mW mo ma cs J5 G5m) ++ [(ou, .inl (cL, 1, .inr (.inl fo9)))]) ++ eP cI N9 Eo9 Er9 En9 Ez9 EF9) := va_D.part (cx := ((xU cI cB cE o9 r9 n9 z9 F9 G9 (Eo9 0 0) ++ mW mo ma cs J5 G5m) ++ [(ou, .inl (cL, 1, .inr (.inl fo9)))])) hD [0, 1, 2, 3, 4, 5, 6, 7, 8, 9, 10, 11, 12, 13, 14, 15, 16, 17, 18, 19, 20, 21, 22, 23, 24, 25, 26, 27, 28, 30, 31, 32, 33, 34, 35, 36, 37, 38, 39, 40, 41, 42, 43, 44, 45, 46, 47, 48, 49, 50, 51, 52, 53, 54, 55, 56, 57, 58, 29] lq_5 rfl
      obtain ⟨hcode, hans, hR9, hI9, hQ9, hW9⟩ := sw_range hI hk01.2 hR hQ hW (by decide) (wk_range (hrelF ())) hw
      have hV9 := ss_range hV (wk_range (hrelF ())) hw
      obtain ⟨hPg9, hCk9⟩ := sp_range hI hR hW hPg hCk (by decide) hcode (hrelF ()) hw
      have hY9 := sy_range hYl (hrelF ()) hw
      have hO9 := so_range hOl (hrelF ()) hw
      refine W.eq (g2 := F0 m 303 ls [.int (iz rr5)]) rfl ?_
      have hbq := hI9.1.hB.1 0
      refine lv_istore (lv' := [(6, .int (iz rr5)), (5, .int (iz q9)), (4, .int (iz (4 * k))), (3, .ref ou), (2, .ref mo), (1, .ref (o 15)), (0, .ref b)]) hx hb dL_law_303 hl (by decide) rfl (fun ls hl => ?_)
      refine lv_goto (tgt := 689) hx hb dL_law_305 (by decide) ?_
      exact kk o9 r9 n9 z9 F9 G9 N9 Eo9 Er9 En9 Ez9 EF9 fo9 J5 G5m H _ _ _ ls (ho9 15 (by decide) (by decide)) hok9 hxG9 hPE9 hI9 ⟨⟨⟨⟨hR9, hQ9, hW9, hV9⟩, hPg9, hCk9⟩, hY9⟩, hO9⟩ hP hD hS hlc.1 hls.1 (lv_sub hl [2, 3, 4, 5, 6] rfl)
set_option maxHeartbeats 4000000 in
set_option maxRecDepth 100000 in
theorem law_see {p : Program} {l : Launch} {e : Env} {s : State} {m : MethodId} {below : List Frame} {meth : Method} {c : Code} {b : Nat} {dC : Nat → ClassId} {dI : Nat → Nat → Nat} {cI cB cE cL : ClassId} {cs : Nat → ClassId} {mo : Nat} {ma : Nat → Nat} {ou xr : Nat} {L : Nat} {xs : Nat → Int32} {k : Int} (hlf : l.stackTraces = false) (C0 : lw_At p s m meth c b L xs) (hL : L ≤ 256) (hk : 0 ≤ k ∧ 4 * k + 4 ≤ (L : Int)) (hK : va_K (dC, dI) kxCl (lT cI cB cE cL cs) s) (kk : LW p l e s m below meth c b dC dI cI cB cE cL cs mo ma ou xr k (k + 1) 689) : LW p l e s m below meth c b dC dI cI cB cE cL cs mo ma ou xr k k 308 := by
  obtain ⟨hx, hb, hr, hml, hown, hts0, hX, hbl, hlocks, hgv⟩ := id C0
  have hown : s.vm.findClass RL = some m.cls := hown
  have hA : ∀ q : Nat, s.heap.size ≤ q → (fun q : Nat => s.heap.size ≤ q) q := fun _ h => h
  have hbA : ¬ (fun q : Nat => s.heap.size ≤ q) b := Nat.not_le.mpr hbl
  have hG : kx_G s := ⟨s, _, hts0, hgv, State.WarmedH.refl s⟩
  have hZ : kx_Z (fun q : Nat => s.heap.size ≤ q) s s.heap := law_Z hts0 hgv
  have hts := kx_hts (a := #[Value.ref b]) hG
  intro o r n z F G N Eo Er En Ez EF fo I Fm H locs cells slots ls hxr hok hxG hPE hI hR hP hD hS hcl hsl hl
  subst hxr
  obtain ⟨⟨hR, hYl⟩, hOl⟩ := hR
  obtain ⟨⟨hR, hQ, hW, hV⟩, hPg, hCk⟩ := hR
  obtain ⟨hN1, hN2, hN3, hN4⟩ := id hxG
  have hz78 := hR.2.1
  have hk64 := hI.2.1.1
  have hk01 : 0 ≤ k ∧ k < 64 := by omega
  obtain ⟨a1, ea1, a1l, a1h⟩ := iz_of (xs (iz (4 * k + 1)).toNatClampNeg)
  obtain ⟨a2, ea2, a2l, a2h⟩ := iz_of (xs (iz (4 * k + 2)).toNatClampNeg)
  obtain ⟨a3, ea3, a3l, a3h⟩ := iz_of (xs (iz (4 * k + 3)).toNatClampNeg)
  refine lv_aload_n hx hb dL_law_308 rfl (lv_at hl 3 rfl) ?_
  refine lv_aload_n hx hb dL_law_309 rfl (lv_at hl 4 rfl) ?_
  refine lv_iload hx hb dL_law_310 (lv_at hl 0 rfl) ?_
  refine lv_iconst (v := iz 1) hx hb dL_law_312 (by decide) ?_
  refine ki_iadd hx hb dL_law_313 ?_
  refine va_sld hx hb hX hbl hbA hS (iz_in (by omega) (by omega) (by omega)) dL_law_314 ?_
  refine ki_is ea1 ?_
  refine lv_aload_n hx hb dL_law_315 rfl (lv_at hl 4 rfl) ?_
  refine lv_iload hx hb dL_law_316 (lv_at hl 0 rfl) ?_
  refine lv_iconst (v := iz 2) hx hb dL_law_318 (by decide) ?_
  refine ki_iadd hx hb dL_law_319 ?_
  refine va_sld hx hb hX hbl hbA hS (iz_in (by omega) (by omega) (by omega)) dL_law_320 ?_
  refine ki_is ea2 ?_
  refine lv_aload_n hx hb dL_law_321 rfl (lv_at hl 1 rfl) ?_
  have hPc : va_P (dC, dI) kxCl ((xU cI cB cE o r n z F G (Eo 0 0) ++ [(ou, .inl (cL, 1, .inr (.inl fo)))]) ++ eP cI N Eo Er En Ez EF) H := va_P.part (cx := xU cI cB cE o r n z F G (Eo 0 0) ++ [(ou, .inl (cL, 1, .inr (.inl fo)))]) hP [0, 1, 2, 3, 4, 5, 6, 7, 8, 9, 10, 11, 12, 13, 14, 15, 16, 17, 18, 19, 20, 21, 22, 23, 24, 25, 26, 27, 28, 58] rfl
  have hDc : va_D (fun q : Nat => s.heap.size ≤ q) ((xU cI cB cE o r n z F G (Eo 0 0) ++ [(ou, .inl (cL, 1, .inr (.inl fo)))]) ++ eP cI N Eo Er En Ez EF) := va_D.part (cx := xU cI cB cE o r n z F G (Eo 0 0) ++ [(ou, .inl (cL, 1, .inr (.inl fo)))]) hD [0, 1, 2, 3, 4, 5, 6, 7, 8, 9, 10, 11, 12, 13, 14, 15, 16, 17, 18, 19, 20, 21, 22, 23, 24, 25, 26, 27, 28, 58] lq_0 rfl
  have hFc := va_freeP (cx := xU cI cB cE o r n z F G (Eo 0 0) ++ [(ou, .inl (cL, 1, .inr (.inl fo)))]) hD hS hA [0, 1, 2, 3, 4, 5, 6, 7, 8, 9, 10, 11, 12, 13, 14, 15, 16, 17, 18, 19, 20, 21, 22, 23, 24, 25, 26, 27, 28, 58] rfl
  have hKc := hK.sub (tys' := [(cI, .int), (cB, .byte), (cE, .object RX0), (cL, .long)]) [0, 1, 2, 31] rfl
  refine xk_call (vx_runSW (As := [.ref (o 15), .int (iz a1), .int (iz a2), .ref ou]) (rest := []) ⟨hx, hb, hml, hown, hts⟩ (h_see4 l hlf dC dI cI cB cE cL o r n z F G N Eo Er En Ez EF ou fo a1 a2 H.size hok hxG hPE (by omega) (by omega) (by omega) (by omega)) (vx_cwSW 4 hts (kx_gS kq_92_law_25 kq_92_law_26 kq_92_law_2 kq_25_xhelp_26 rfl) rfl rfl rfl (by decide +kernel) ⟨Nat.le_of_ble_eq_true rfl, Nat.le_of_ble_eq_true rfl⟩) ⟨kx_blind, kx_give (ws := []) (tys := []) hPc hDc hKc hG hZ hS hFc⟩ rfl rfl hl.1 rfl (lv_room (Nat.le_of_ble_eq_true rfl)) dL_law_322 ⟨show cells + 150 ≤ 600384 from (by omega), show slots + 46000 ≤ 7291369 from (by omega)⟩) hS (fun q _ h => hFc q h) hFc (fun u dn9 dm9 t H1 locs ht hvm hq hB hk1 hS => ?_)
  obtain ⟨q9, fo9, o9, r9, n9, z9, F9, G9, N9, Eo9, Er9, En9, Ez9, EF9⟩ := u
  obtain ⟨hP1, hK1, hD1⟩ := hB
  rw [ht] at hP1
  try dsimp only at hq
  obtain ⟨hP, hD⟩ := va_joinP (wr := mW mo ma cs I Fm) (rx := xU cI cB cE o9 r9 n9 z9 F9 G9 (Eo9 0 0) ++ [(ou, .inl (cL, 1, .inr (.inl fo9)))]) (pl1 := eP cI N9 Eo9 Er9 En9 Ez9 EF9) hP hD [0, 1, 2, 3, 4, 5, 6, 7, 8, 9, 10, 11, 12, 13, 14, 15, 16, 17, 18, 19, 20, 21, 22, 23, 24, 25, 26, 27, 28, 58] [29, 30, 31, 32, 33, 34, 35, 36, 37, 38, 39, 40, 41, 42, 43, 44, 45, 46, 47, 48, 49, 50, 51, 52, 53, 54, 55, 56, 57] rfl rfl lq_1 lq_2 hk1 hFc hP1 hD1
  generalize H1 = H at hP hS ⊢
  have hP : va_P (dC, dI) kxCl (((xU cI cB cE o9 r9 n9 z9 F9 G9 (Eo9 0 0) ++ mW mo ma cs I Fm) ++ [(ou, .inl (cL, 1, .inr (.inl fo9)))]) ++ eP cI N9 Eo9 Er9 En9 Ez9 EF9) H := va_P.part (cx := ((xU cI cB cE o9 r9 n9 z9 F9 G9 (Eo9 0 0) ++ mW mo ma cs I Fm) ++ [(ou, .inl (cL, 1, .inr (.inl fo9)))])) hP [29, 30, 31, 32, 33, 34, 35, 36, 37, 38, 39, 40, 41, 42, 43, 44, 45, 46, 47, 48, 49, 50, 51, 52, 53, 54, 55, 56, 57, 0, 1, 2, 3, 4, 5, 6, 7, 8, 9, 10, 11, 12, 13, 14, 15, 16, 17, 18, 19, 20, 21, 22, 23, 24, 25, 26, 27, 28, 58] rfl
  have hD : va_D (fun q : Nat => s.heap.size ≤ q) (((xU cI cB cE o9 r9 n9 z9 F9 G9 (Eo9 0 0) ++ mW mo ma cs I Fm) ++ [(ou, .inl (cL, 1, .inr (.inl fo9)))]) ++ eP cI N9 Eo9 Er9 En9 Ez9 EF9) := va_D.part (cx := ((xU cI cB cE o9 r9 n9 z9 F9 G9 (Eo9 0 0) ++ mW mo ma cs I Fm) ++ [(ou, .inl (cL, 1, .inr (.inl fo9)))])) hD [29, 30, 31, 32, 33, 34, 35, 36, 37, 38, 39, 40, 41, 42, 43, 44, 45, 46, 47, 48, 49, 50, 51, 52, 53, 54, 55, 56, 57, 0, 1, 2, 3, 4, 5, 6, 7, 8, 9, 10, 11, 12, 13, 14, 15, 16, 17, 18, 19, 20, 21, 22, 23, 24, 25, 26, 27, 28, 58] lq_3 rfl
  obtain ⟨hok9, hxG9, hPE9, hcost, ho9, hrel⟩ := hq
  have hrelF := fun (_ : Unit) => hrel
  clear hrel
  have hlc := lcC hcl (Nat.le_trans hcost.1 (by decide)) hk01
  have hls := lcS hsl (Nat.le_trans hcost.2 (by decide)) hk01
  refine W.eq (g2 := F0 m 325 ls [.int (iz q9)]) rfl ?_
  refine lv_istore (lv' := [(5, .int (iz q9)), (4, .int (iz (4 * k))), (3, .ref ou), (2, .ref mo), (1, .ref (o 15)), (0, .ref b)]) hx hb dL_law_325 hl (by decide) rfl (fun ls hl => ?_)
  refine lv_aload_n hx hb dL_law_327 rfl (lv_at hl 3 rfl) ?_
  refine lv_aload_n hx hb dL_law_328 rfl (lv_at hl 5 rfl) ?_
  refine lv_iload hx hb dL_law_329 (lv_at hl 1 rfl) ?_
  refine lv_iconst (v := iz 1) hx hb dL_law_331 (by decide) ?_
  refine ki_iadd hx hb dL_law_332 ?_
  refine va_sld hx hb hX hbl hbA hS (iz_in (by omega) (by omega) (by omega)) dL_law_333 ?_
  refine ki_is ea1 ?_
  refine lv_aload_n hx hb dL_law_334 rfl (lv_at hl 5 rfl) ?_
  refine lv_iload hx hb dL_law_335 (lv_at hl 1 rfl) ?_
  refine lv_iconst (v := iz 2) hx hb dL_law_337 (by decide) ?_
  refine ki_iadd hx hb dL_law_338 ?_
  refine va_sld hx hb hX hbl hbA hS (iz_in (by omega) (by omega) (by omega)) dL_law_339 ?_
  refine ki_is ea2 ?_
  have hPc := hP.sub (ws' := mW mo ma cs I Fm) [29, 30, 31, 32, 33, 34, 35, 36, 37, 38, 39, 40, 41, 42, 43, 44, 45, 46, 47, 48, 49, 50, 51, 52, 53, 54, 55, 56, 57] rfl
  have hDc := hD.sub (ws' := mW mo ma cs I Fm) [29, 30, 31, 32, 33, 34, 35, 36, 37, 38, 39, 40, 41, 42, 43, 44, 45, 46, 47, 48, 49, 50, 51, 52, 53, 54, 55, 56, 57] lq_1 rfl
  have hFc := va_free (wc := mW mo ma cs I Fm) hD hS hA [29, 30, 31, 32, 33, 34, 35, 36, 37, 38, 39, 40, 41, 42, 43, 44, 45, 46, 47, 48, 49, 50, 51, 52, 53, 54, 55, 56, 57] rfl
  have hKc := hK.sub (tys' := mT cs) [3, 4, 5, 6, 7, 8, 9, 10, 11, 12, 13, 14, 15, 16, 17, 18, 19, 20, 21, 22, 23, 24, 25, 26, 27, 28, 29, 30] rfl
  refine va_calli (va_runV (As := [.int (iz a1), .int (iz a2)]) (rest := []) ⟨hx, hb, hml, hown, hts⟩ (k_see2 l dC dI mo ma cs I Fm a1 a2 H.size hI.1.hB hI.1.hc hI.1.hmy (by omega) (by omega) (by omega) (by omega)) (cwV 2 hts (kx_gV kq_92_law_27 kq_92_law_28 kq_92_law_29 kq_04_msmall_6 kq_92_law_30 rfl) rfl rfl rfl (by decide +kernel) ⟨Nat.le_of_ble_eq_true rfl, Nat.le_of_ble_eq_true rfl⟩) ⟨kx_blind, va_recv hKc hPc (ci := 6) (q0 := 0) rfl rfl, kx_give (ws := []) (tys := []) hPc hDc hKc hG hZ hS hFc⟩ rfl rfl hl.1 rfl (lv_room (Nat.le_of_ble_eq_true rfl)) dL_law_340 ⟨show (cells + dn9) + 0 ≤ 600384 from (Nat.le_trans hlc.2 (by decide)), show (slots + dm9) + 0 ≤ 7291369 from (Nat.le_trans hls.2 (by decide))⟩) hS (fun q _ h => hFc q h) hFc (fun r u t H1 locs ht hvm hw hB hz1 hk1 hS => ?_)
  obtain ⟨rr1, J1, G1m⟩ := u
  obtain ⟨hP1, hK1, hD1⟩ := hB
  rw [ht] at hP1
  obtain ⟨e1, hw⟩ := hw
  subst e1
  try dsimp only at hw
  obtain ⟨hP, hD⟩ := va_joinQ (wr := xU cI cB cE o9 r9 n9 z9 F9 G9 (Eo9 0 0) ++ [(ou, .inl (cL, 1, .inr (.inl fo9)))]) (w1 := mW mo ma cs J1 G1m) hP hD [29, 30, 31, 32, 33, 34, 35, 36, 37, 38, 39, 40, 41, 42, 43, 44, 45, 46, 47, 48, 49, 50, 51, 52, 53, 54, 55, 56, 57] [0, 1, 2, 3, 4, 5, 6, 7, 8, 9, 10, 11, 12, 13, 14, 15, 16, 17, 18, 19, 20, 21, 22, 23, 24, 25, 26, 27, 28, 58] rfl rfl lq_0 lq_4 hk1 hFc hP1 hD1
  generalize H1 = H at hP hS ⊢
  have hP : va_P (dC, dI) kxCl (((xU cI cB cE o9 r9 n9 z9 F9 G9 (Eo9 0 0) ++ mW mo ma cs J1 G1m) ++ [(ou, .inl (cL, 1, .inr (.inl fo9)))]) ++ eP cI N9 Eo9 Er9 En9 Ez9 EF9) H := va_P.part (cx := ((xU cI cB cE o9 r9 n9 z9 F9 G9 (Eo9 0 0) ++ mW mo ma cs J1 G1m) ++ [(ou, .inl (cL, 1, .inr (.inl fo9)))])) hP [0, 1, 2, 3, 4, 5, 6, 7, 8, 9, 10, 11, 12, 13, 14, 15, 16, 17, 18, 19, 20, 21, 22, 23, 24, 25, 26, 27, 28, 30, 31, 32, 33, 34, 35, 36, 37, 38, 39, 40, 41, 42, 43, 44, 45, 46, 47, 48, 49, 50, 51, 52, 53, 54, 55, 56, 57, 58, 29] rfl
  have hD : va_D (fun q : Nat => s.heap.size ≤ q) (((xU cI cB cE o9 r9 n9 z9 F9 G9 (Eo9 0 0) ++ mW mo ma cs J1 G1m) ++ [(ou, .inl (cL, 1, .inr (.inl fo9)))]) ++ eP cI N9 Eo9 Er9 En9 Ez9 EF9) := va_D.part (cx := ((xU cI cB cE o9 r9 n9 z9 F9 G9 (Eo9 0 0) ++ mW mo ma cs J1 G1m) ++ [(ou, .inl (cL, 1, .inr (.inl fo9)))])) hD [0, 1, 2, 3, 4, 5, 6, 7, 8, 9, 10, 11, 12, 13, 14, 15, 16, 17, 18, 19, 20, 21, 22, 23, 24, 25, 26, 27, 28, 30, 31, 32, 33, 34, 35, 36, 37, 38, 39, 40, 41, 42, 43, 44, 45, 46, 47, 48, 49, 50, 51, 52, 53, 54, 55, 56, 57, 58, 29] lq_5 rfl
  obtain ⟨hR9, hI9, hQ9, hW9, hV9⟩ := ss_see hI hk01.2 hR hQ hW hV (hrelF ()) hw
  obtain ⟨hPg9, hCk9⟩ := sp_see hI hR hW hPg hCk (hrelF ()) hw
  have hY9 := sy_see hYl (hrelF ()) hw
  have hO9 := so_see hOl (hrelF ()) hw
  refine W.eq (g2 := F0 m 343 ls [.int (iz rr1)]) rfl ?_
  refine lv_istore (lv' := [(6, .int (iz rr1)), (5, .int (iz q9)), (4, .int (iz (4 * k))), (3, .ref ou), (2, .ref mo), (1, .ref (o 15)), (0, .ref b)]) hx hb dL_law_343 hl (by decide) rfl (fun ls hl => ?_)
  refine lv_goto (tgt := 689) hx hb dL_law_345 (by decide) ?_
  exact kk o9 r9 n9 z9 F9 G9 N9 Eo9 Er9 En9 Ez9 EF9 fo9 J1 G1m H _ _ _ ls (ho9 15 (by decide) (by decide)) hok9 hxG9 hPE9 hI9 ⟨⟨⟨⟨hR9, hQ9, hW9, hV9⟩, hPg9, hCk9⟩, hY9⟩, hO9⟩ hP hD hS hlc.1 hls.1 (lv_sub hl [2, 3, 4, 5, 6] rfl)
set_option maxHeartbeats 4000000 in
set_option maxRecDepth 100000 in
theorem law_rule {p : Program} {l : Launch} {e : Env} {s : State} {m : MethodId} {below : List Frame} {meth : Method} {c : Code} {b : Nat} {dC : Nat → ClassId} {dI : Nat → Nat → Nat} {cI cB cE cL : ClassId} {cs : Nat → ClassId} {mo : Nat} {ma : Nat → Nat} {ou xr : Nat} {L : Nat} {xs : Nat → Int32} {k : Int} (hlf : l.stackTraces = false) (C0 : lw_At p s m meth c b L xs) (hL : L ≤ 256) (hk : 0 ≤ k ∧ 4 * k + 4 ≤ (L : Int)) (hK : va_K (dC, dI) kxCl (lT cI cB cE cL cs) s) (kk : LW p l e s m below meth c b dC dI cI cB cE cL cs mo ma ou xr k (k + 1) 689) : LW p l e s m below meth c b dC dI cI cB cE cL cs mo ma ou xr k k 348 := by
  obtain ⟨hx, hb, hr, hml, hown, hts0, hX, hbl, hlocks, hgv⟩ := id C0
  have hown : s.vm.findClass RL = some m.cls := hown
  have hA : ∀ q : Nat, s.heap.size ≤ q → (fun q : Nat => s.heap.size ≤ q) q := fun _ h => h
  have hbA : ¬ (fun q : Nat => s.heap.size ≤ q) b := Nat.not_le.mpr hbl
  have hG : kx_G s := ⟨s, _, hts0, hgv, State.WarmedH.refl s⟩
  have hZ : kx_Z (fun q : Nat => s.heap.size ≤ q) s s.heap := law_Z hts0 hgv
  have hts := kx_hts (a := #[Value.ref b]) hG
  intro o r n z F G N Eo Er En Ez EF fo I Fm H locs cells slots ls hxr hok hxG hPE hI hR hP hD hS hcl hsl hl
  subst hxr
  obtain ⟨⟨hR, hYl⟩, hOl⟩ := hR
  obtain ⟨⟨hR, hQ, hW, hV⟩, hPg, hCk⟩ := hR
  obtain ⟨hN1, hN2, hN3, hN4⟩ := id hxG
  have hz78 := hR.2.1
  have hk64 := hI.2.1.1
  have hk01 : 0 ≤ k ∧ k < 64 := by omega
  obtain ⟨a1, ea1, a1l, a1h⟩ := iz_of (xs (iz (4 * k + 1)).toNatClampNeg)
  obtain ⟨a2, ea2, a2l, a2h⟩ := iz_of (xs (iz (4 * k + 2)).toNatClampNeg)
  obtain ⟨a3, ea3, a3l, a3h⟩ := iz_of (xs (iz (4 * k + 3)).toNatClampNeg)
  refine lv_aload_n hx hb dL_law_348 rfl (lv_at hl 3 rfl) ?_
  refine lv_aload_n hx hb dL_law_349 rfl (lv_at hl 4 rfl) ?_
  refine lv_iload hx hb dL_law_350 (lv_at hl 0 rfl) ?_
  refine lv_iconst (v := iz 1) hx hb dL_law_352 (by decide) ?_
  refine ki_iadd hx hb dL_law_353 ?_
  refine va_sld hx hb hX hbl hbA hS (iz_in (by omega) (by omega) (by omega)) dL_law_354 ?_
  refine ki_is ea1 ?_
  refine lv_aload_n hx hb dL_law_355 rfl (lv_at hl 4 rfl) ?_
  refine lv_iload hx hb dL_law_356 (lv_at hl 0 rfl) ?_
  refine lv_iconst (v := iz 2) hx hb dL_law_358 (by decide) ?_
  refine ki_iadd hx hb dL_law_359 ?_
  refine va_sld hx hb hX hbl hbA hS (iz_in (by omega) (by omega) (by omega)) dL_law_360 ?_
  refine ki_is ea2 ?_
  refine ki_if_eq (tgt := 368) hx hb dL_law_361 (by decide) (by omega) (by omega) (fun c_1 => ?_) (fun c_1 => ?_)
  · skip
    refine lv_iconst (v := iz 0) hx hb dL_law_368 (by decide) ?_
    refine lv_aload_n hx hb dL_law_369 rfl (lv_at hl 1 rfl) ?_
    have hPc : va_P (dC, dI) kxCl ((xU cI cB cE o r n z F G (Eo 0 0) ++ [(ou, .inl (cL, 1, .inr (.inl fo)))]) ++ eP cI N Eo Er En Ez EF) H := va_P.part (cx := xU cI cB cE o r n z F G (Eo 0 0) ++ [(ou, .inl (cL, 1, .inr (.inl fo)))]) hP [0, 1, 2, 3, 4, 5, 6, 7, 8, 9, 10, 11, 12, 13, 14, 15, 16, 17, 18, 19, 20, 21, 22, 23, 24, 25, 26, 27, 28, 58] rfl
    have hDc : va_D (fun q : Nat => s.heap.size ≤ q) ((xU cI cB cE o r n z F G (Eo 0 0) ++ [(ou, .inl (cL, 1, .inr (.inl fo)))]) ++ eP cI N Eo Er En Ez EF) := va_D.part (cx := xU cI cB cE o r n z F G (Eo 0 0) ++ [(ou, .inl (cL, 1, .inr (.inl fo)))]) hD [0, 1, 2, 3, 4, 5, 6, 7, 8, 9, 10, 11, 12, 13, 14, 15, 16, 17, 18, 19, 20, 21, 22, 23, 24, 25, 26, 27, 28, 58] lq_0 rfl
    have hFc := va_freeP (cx := xU cI cB cE o r n z F G (Eo 0 0) ++ [(ou, .inl (cL, 1, .inr (.inl fo)))]) hD hS hA [0, 1, 2, 3, 4, 5, 6, 7, 8, 9, 10, 11, 12, 13, 14, 15, 16, 17, 18, 19, 20, 21, 22, 23, 24, 25, 26, 27, 28, 58] rfl
    have hKc := hK.sub (tys' := [(cI, .int), (cB, .byte), (cE, .object RX0), (cL, .long)]) [0, 1, 2, 31] rfl
    refine xk_call (vx_runSW (As := [.ref (o 15), .int (iz a1), .int (iz 0), .ref ou]) (rest := []) ⟨hx, hb, hml, hown, hts⟩ (h_rule5 l hlf dC dI cI cB cE cL o r n z F G N Eo Er En Ez EF ou fo a1 0 H.size hok hxG hPE (by omega) (by omega) (by omega) (hQ.rngA hR hN3)) (vx_cwSW 4 hts (kx_gS kq_92_law_31 kq_92_law_32 kq_92_law_2 kq_25_xhelp_31 rfl) rfl rfl rfl (by decide +kernel) ⟨Nat.le_of_ble_eq_true rfl, Nat.le_of_ble_eq_true rfl⟩) ⟨kx_blind, kx_give (ws := []) (tys := []) hPc hDc hKc hG hZ hS hFc⟩ rfl rfl hl.1 rfl (lv_room (Nat.le_of_ble_eq_true rfl)) dL_law_370 ⟨show cells + 1000 ≤ 600384 from (by omega), show slots + 60000 ≤ 7291369 from (by omega)⟩) hS (fun q _ h => hFc q h) hFc (fun u dn9 dm9 t H1 locs ht hvm hq hB hk1 hS => ?_)
    obtain ⟨q9, fo9, o9, r9, n9, z9, F9, G9, N9, Eo9, Er9, En9, Ez9, EF9⟩ := u
    obtain ⟨hP1, hK1, hD1⟩ := hB
    rw [ht] at hP1
    try dsimp only at hq
    obtain ⟨hP, hD⟩ := va_joinP (wr := mW mo ma cs I Fm) (rx := xU cI cB cE o9 r9 n9 z9 F9 G9 (Eo9 0 0) ++ [(ou, .inl (cL, 1, .inr (.inl fo9)))]) (pl1 := eP cI N9 Eo9 Er9 En9 Ez9 EF9) hP hD [0, 1, 2, 3, 4, 5, 6, 7, 8, 9, 10, 11, 12, 13, 14, 15, 16, 17, 18, 19, 20, 21, 22, 23, 24, 25, 26, 27, 28, 58] [29, 30, 31, 32, 33, 34, 35, 36, 37, 38, 39, 40, 41, 42, 43, 44, 45, 46, 47, 48, 49, 50, 51, 52, 53, 54, 55, 56, 57] rfl rfl lq_1 lq_2 hk1 hFc hP1 hD1
    generalize H1 = H at hP hS ⊢
    have hP : va_P (dC, dI) kxCl (((xU cI cB cE o9 r9 n9 z9 F9 G9 (Eo9 0 0) ++ mW mo ma cs I Fm) ++ [(ou, .inl (cL, 1, .inr (.inl fo9)))]) ++ eP cI N9 Eo9 Er9 En9 Ez9 EF9) H := va_P.part (cx := ((xU cI cB cE o9 r9 n9 z9 F9 G9 (Eo9 0 0) ++ mW mo ma cs I Fm) ++ [(ou, .inl (cL, 1, .inr (.inl fo9)))])) hP [29, 30, 31, 32, 33, 34, 35, 36, 37, 38, 39, 40, 41, 42, 43, 44, 45, 46, 47, 48, 49, 50, 51, 52, 53, 54, 55, 56, 57, 0, 1, 2, 3, 4, 5, 6, 7, 8, 9, 10, 11, 12, 13, 14, 15, 16, 17, 18, 19, 20, 21, 22, 23, 24, 25, 26, 27, 28, 58] rfl
    have hD : va_D (fun q : Nat => s.heap.size ≤ q) (((xU cI cB cE o9 r9 n9 z9 F9 G9 (Eo9 0 0) ++ mW mo ma cs I Fm) ++ [(ou, .inl (cL, 1, .inr (.inl fo9)))]) ++ eP cI N9 Eo9 Er9 En9 Ez9 EF9) := va_D.part (cx := ((xU cI cB cE o9 r9 n9 z9 F9 G9 (Eo9 0 0) ++ mW mo ma cs I Fm) ++ [(ou, .inl (cL, 1, .inr (.inl fo9)))])) hD [29, 30, 31, 32, 33, 34, 35, 36, 37, 38, 39, 40, 41, 42, 43, 44, 45, 46, 47, 48, 49, 50, 51, 52, 53, 54, 55, 56, 57, 0, 1, 2, 3, 4, 5, 6, 7, 8, 9, 10, 11, 12, 13, 14, 15, 16, 17, 18, 19, 20, 21, 22, 23, 24, 25, 26, 27, 28, 58] lq_3 rfl
    obtain ⟨hok9, hxG9, hPE9, hcost, ho9, hrel⟩ := hq
    have hrelF := fun (_ : Unit) => hrel
    clear hrel
    have hlc := lcC hcl (Nat.le_trans hcost.1 (by decide)) hk01
    have hls := lcS hsl (Nat.le_trans hcost.2 (by decide)) hk01
    refine W.eq (g2 := F0 m 373 ls [.int (iz q9)]) rfl ?_
    refine lv_istore (lv' := [(5, .int (iz q9)), (4, .int (iz (4 * k))), (3, .ref ou), (2, .ref mo), (1, .ref (o 15)), (0, .ref b)]) hx hb dL_law_373 hl (by decide) rfl (fun ls hl => ?_)
    refine lv_aload_n hx hb dL_law_375 rfl (lv_at hl 3 rfl) ?_
    refine lv_aload_n hx hb dL_law_376 rfl (lv_at hl 5 rfl) ?_
    refine lv_iload hx hb dL_law_377 (lv_at hl 1 rfl) ?_
    refine lv_iconst (v := iz 1) hx hb dL_law_379 (by decide) ?_
    refine ki_iadd hx hb dL_law_380 ?_
    refine va_sld hx hb hX hbl hbA hS (iz_in (by omega) (by omega) (by omega)) dL_law_381 ?_
    refine ki_is ea1 ?_
    refine lv_aload_n hx hb dL_law_382 rfl (lv_at hl 5 rfl) ?_
    refine lv_iload hx hb dL_law_383 (lv_at hl 1 rfl) ?_
    refine lv_iconst (v := iz 2) hx hb dL_law_385 (by decide) ?_
    refine ki_iadd hx hb dL_law_386 ?_
    refine va_sld hx hb hX hbl hbA hS (iz_in (by omega) (by omega) (by omega)) dL_law_387 ?_
    refine ki_is ea2 ?_
    refine ki_if_eq (tgt := 395) hx hb dL_law_388 (by decide) (by omega) (by omega) (fun c_2 => ?_) (fun c_2 => ?_)
    · skip
      refine lv_iconst (v := iz 0) hx hb dL_law_395 (by decide) ?_
      have hPc := hP.sub (ws' := mW mo ma cs I Fm) [29, 30, 31, 32, 33, 34, 35, 36, 37, 38, 39, 40, 41, 42, 43, 44, 45, 46, 47, 48, 49, 50, 51, 52, 53, 54, 55, 56, 57] rfl
      have hDc := hD.sub (ws' := mW mo ma cs I Fm) [29, 30, 31, 32, 33, 34, 35, 36, 37, 38, 39, 40, 41, 42, 43, 44, 45, 46, 47, 48, 49, 50, 51, 52, 53, 54, 55, 56, 57] lq_1 rfl
      have hFc := va_free (wc := mW mo ma cs I Fm) hD hS hA [29, 30, 31, 32, 33, 34, 35, 36, 37, 38, 39, 40, 41, 42, 43, 44, 45, 46, 47, 48, 49, 50, 51, 52, 53, 54, 55, 56, 57] rfl
      have hKc := hK.sub (tys' := mT cs) [3, 4, 5, 6, 7, 8, 9, 10, 11, 12, 13, 14, 15, 16, 17, 18, 19, 20, 21, 22, 23, 24, 25, 26, 27, 28, 29, 30] rfl
      refine va_calli (va_runV (As := [.int (iz a1), .int (iz 0)]) (rest := []) ⟨hx, hb, hml, hown, hts⟩ (k_rule l dC dI mo ma cs I Fm a1 0 H.size hI.1.hB hI.2.2.2.1 hI.2.2.2.2 (by omega) (by omega) (by omega)) (cwV 2 hts (kx_gV kq_92_law_33 kq_92_law_34 kq_92_law_35 kq_04_msmall_6 kq_92_law_36 rfl) rfl rfl rfl (by decide +kernel) ⟨Nat.le_of_ble_eq_true rfl, Nat.le_of_ble_eq_true rfl⟩) ⟨kx_blind, va_recv hKc hPc (ci := 6) (q0 := 0) rfl rfl, kx_give (ws := []) (tys := []) hPc hDc hKc hG hZ hS hFc⟩ rfl rfl hl.1 rfl (lv_room (Nat.le_of_ble_eq_true rfl)) dL_law_396 ⟨show (cells + dn9) + 0 ≤ 600384 from (Nat.le_trans hlc.2 (by decide)), show (slots + dm9) + 0 ≤ 7291369 from (Nat.le_trans hls.2 (by decide))⟩) hS (fun q _ h => hFc q h) hFc (fun r u t H1 locs ht hvm hw hB hz1 hk1 hS => ?_)
      obtain ⟨rr3, J3, G3m⟩ := u
      obtain ⟨hP1, hK1, hD1⟩ := hB
      rw [ht] at hP1
      obtain ⟨e1, hw⟩ := hw
      subst e1
      try dsimp only at hw
      obtain ⟨hP, hD⟩ := va_joinQ (wr := xU cI cB cE o9 r9 n9 z9 F9 G9 (Eo9 0 0) ++ [(ou, .inl (cL, 1, .inr (.inl fo9)))]) (w1 := mW mo ma cs J3 G3m) hP hD [29, 30, 31, 32, 33, 34, 35, 36, 37, 38, 39, 40, 41, 42, 43, 44, 45, 46, 47, 48, 49, 50, 51, 52, 53, 54, 55, 56, 57] [0, 1, 2, 3, 4, 5, 6, 7, 8, 9, 10, 11, 12, 13, 14, 15, 16, 17, 18, 19, 20, 21, 22, 23, 24, 25, 26, 27, 28, 58] rfl rfl lq_0 lq_4 hk1 hFc hP1 hD1
      generalize H1 = H at hP hS ⊢
      have hP : va_P (dC, dI) kxCl (((xU cI cB cE o9 r9 n9 z9 F9 G9 (Eo9 0 0) ++ mW mo ma cs J3 G3m) ++ [(ou, .inl (cL, 1, .inr (.inl fo9)))]) ++ eP cI N9 Eo9 Er9 En9 Ez9 EF9) H := va_P.part (cx := ((xU cI cB cE o9 r9 n9 z9 F9 G9 (Eo9 0 0) ++ mW mo ma cs J3 G3m) ++ [(ou, .inl (cL, 1, .inr (.inl fo9)))])) hP [0, 1, 2, 3, 4, 5, 6, 7, 8, 9, 10, 11, 12, 13, 14, 15, 16, 17, 18, 19, 20, 21, 22, 23, 24, 25, 26, 27, 28, 30, 31, 32, 33, 34, 35, 36, 37, 38, 39, 40, 41, 42, 43, 44, 45, 46, 47, 48, 49, 50, 51, 52, 53, 54, 55, 56, 57, 58, 29] rfl
      have hD : va_D (fun q : Nat => s.heap.size ≤ q) (((xU cI cB cE o9 r9 n9 z9 F9 G9 (Eo9 0 0) ++ mW mo ma cs J3 G3m) ++ [(ou, .inl (cL, 1, .inr (.inl fo9)))]) ++ eP cI N9 Eo9 Er9 En9 Ez9 EF9) := va_D.part (cx := ((xU cI cB cE o9 r9 n9 z9 F9 G9 (Eo9 0 0) ++ mW mo ma cs J3 G3m) ++ [(ou, .inl (cL, 1, .inr (.inl fo9)))])) hD [0, 1, 2, 3, 4, 5, 6, 7, 8, 9, 10, 11, 12, 13, 14, 15, 16, 17, 18, 19, 20, 21, 22, 23, 24, 25, 26, 27, 28, 30, 31, 32, 33, 34, 35, 36, 37, 38, 39, 40, 41, 42, 43, 44, 45, 46, 47, 48, 49, 50, 51, 52, 53, 54, 55, 56, 57, 58, 29] lq_5 rfl
      obtain ⟨hcode, hans, hR9, hI9, hQ9, hW9⟩ := sw_rule hI hk01.2 hR hQ hW (by decide) (wk_rule (hrelF ())) hw
      have hV9 := ss_rule hV (wk_rule (hrelF ())) hw
      obtain ⟨hPg9, hCk9⟩ := sp_rule hI hR hW hPg hCk (hrelF ()) hw
      have hY9 := sy_rule hYl (hrelF ()) hw
      have hO9 := so_rule hOl (hrelF ()) hw
      refine W.eq (g2 := F0 m 399 ls [.int (iz rr3)]) rfl ?_
      have hbq := hI9.1.hB.1 0
      refine lv_istore (lv' := [(6, .int (iz rr3)), (5, .int (iz q9)), (4, .int (iz (4 * k))), (3, .ref ou), (2, .ref mo), (1, .ref (o 15)), (0, .ref b)]) hx hb dL_law_399 hl (by decide) rfl (fun ls hl => ?_)
      refine lv_goto (tgt := 689) hx hb dL_law_401 (by decide) ?_
      exact kk o9 r9 n9 z9 F9 G9 N9 Eo9 Er9 En9 Ez9 EF9 fo9 J3 G3m H _ _ _ ls (ho9 15 (by decide) (by decide)) hok9 hxG9 hPE9 hI9 ⟨⟨⟨⟨hR9, hQ9, hW9, hV9⟩, hPg9, hCk9⟩, hY9⟩, hO9⟩ hP hD hS hlc.1 hls.1 (lv_sub hl [2, 3, 4, 5, 6] rfl)
    · omega
  · skip
    refine lv_iconst (v := iz 1) hx hb dL_law_364 (by decide) ?_
    refine lv_goto (tgt := 369) hx hb dL_law_365 (by decide) ?_
    refine lv_aload_n hx hb dL_law_369 rfl (lv_at hl 1 rfl) ?_
    have hPc : va_P (dC, dI) kxCl ((xU cI cB cE o r n z F G (Eo 0 0) ++ [(ou, .inl (cL, 1, .inr (.inl fo)))]) ++ eP cI N Eo Er En Ez EF) H := va_P.part (cx := xU cI cB cE o r n z F G (Eo 0 0) ++ [(ou, .inl (cL, 1, .inr (.inl fo)))]) hP [0, 1, 2, 3, 4, 5, 6, 7, 8, 9, 10, 11, 12, 13, 14, 15, 16, 17, 18, 19, 20, 21, 22, 23, 24, 25, 26, 27, 28, 58] rfl
    have hDc : va_D (fun q : Nat => s.heap.size ≤ q) ((xU cI cB cE o r n z F G (Eo 0 0) ++ [(ou, .inl (cL, 1, .inr (.inl fo)))]) ++ eP cI N Eo Er En Ez EF) := va_D.part (cx := xU cI cB cE o r n z F G (Eo 0 0) ++ [(ou, .inl (cL, 1, .inr (.inl fo)))]) hD [0, 1, 2, 3, 4, 5, 6, 7, 8, 9, 10, 11, 12, 13, 14, 15, 16, 17, 18, 19, 20, 21, 22, 23, 24, 25, 26, 27, 28, 58] lq_0 rfl
    have hFc := va_freeP (cx := xU cI cB cE o r n z F G (Eo 0 0) ++ [(ou, .inl (cL, 1, .inr (.inl fo)))]) hD hS hA [0, 1, 2, 3, 4, 5, 6, 7, 8, 9, 10, 11, 12, 13, 14, 15, 16, 17, 18, 19, 20, 21, 22, 23, 24, 25, 26, 27, 28, 58] rfl
    have hKc := hK.sub (tys' := [(cI, .int), (cB, .byte), (cE, .object RX0), (cL, .long)]) [0, 1, 2, 31] rfl
    refine xk_call (vx_runSW (As := [.ref (o 15), .int (iz a1), .int (iz 1), .ref ou]) (rest := []) ⟨hx, hb, hml, hown, hts⟩ (h_rule5 l hlf dC dI cI cB cE cL o r n z F G N Eo Er En Ez EF ou fo a1 1 H.size hok hxG hPE (by omega) (by omega) (by omega) (hQ.rngA hR hN3)) (vx_cwSW 4 hts (kx_gS kq_92_law_31 kq_92_law_32 kq_92_law_2 kq_25_xhelp_31 rfl) rfl rfl rfl (by decide +kernel) ⟨Nat.le_of_ble_eq_true rfl, Nat.le_of_ble_eq_true rfl⟩) ⟨kx_blind, kx_give (ws := []) (tys := []) hPc hDc hKc hG hZ hS hFc⟩ rfl rfl hl.1 rfl (lv_room (Nat.le_of_ble_eq_true rfl)) dL_law_370 ⟨show cells + 1000 ≤ 600384 from (by omega), show slots + 60000 ≤ 7291369 from (by omega)⟩) hS (fun q _ h => hFc q h) hFc (fun u dn9 dm9 t H1 locs ht hvm hq hB hk1 hS => ?_)
    obtain ⟨q9, fo9, o9, r9, n9, z9, F9, G9, N9, Eo9, Er9, En9, Ez9, EF9⟩ := u
    obtain ⟨hP1, hK1, hD1⟩ := hB
    rw [ht] at hP1
    try dsimp only at hq
    obtain ⟨hP, hD⟩ := va_joinP (wr := mW mo ma cs I Fm) (rx := xU cI cB cE o9 r9 n9 z9 F9 G9 (Eo9 0 0) ++ [(ou, .inl (cL, 1, .inr (.inl fo9)))]) (pl1 := eP cI N9 Eo9 Er9 En9 Ez9 EF9) hP hD [0, 1, 2, 3, 4, 5, 6, 7, 8, 9, 10, 11, 12, 13, 14, 15, 16, 17, 18, 19, 20, 21, 22, 23, 24, 25, 26, 27, 28, 58] [29, 30, 31, 32, 33, 34, 35, 36, 37, 38, 39, 40, 41, 42, 43, 44, 45, 46, 47, 48, 49, 50, 51, 52, 53, 54, 55, 56, 57] rfl rfl lq_1 lq_2 hk1 hFc hP1 hD1
    generalize H1 = H at hP hS ⊢
    have hP : va_P (dC, dI) kxCl (((xU cI cB cE o9 r9 n9 z9 F9 G9 (Eo9 0 0) ++ mW mo ma cs I Fm) ++ [(ou, .inl (cL, 1, .inr (.inl fo9)))]) ++ eP cI N9 Eo9 Er9 En9 Ez9 EF9) H := va_P.part (cx := ((xU cI cB cE o9 r9 n9 z9 F9 G9 (Eo9 0 0) ++ mW mo ma cs I Fm) ++ [(ou, .inl (cL, 1, .inr (.inl fo9)))])) hP [29, 30, 31, 32, 33, 34, 35, 36, 37, 38, 39, 40, 41, 42, 43, 44, 45, 46, 47, 48, 49, 50, 51, 52, 53, 54, 55, 56, 57, 0, 1, 2, 3, 4, 5, 6, 7, 8, 9, 10, 11, 12, 13, 14, 15, 16, 17, 18, 19, 20, 21, 22, 23, 24, 25, 26, 27, 28, 58] rfl
    have hD : va_D (fun q : Nat => s.heap.size ≤ q) (((xU cI cB cE o9 r9 n9 z9 F9 G9 (Eo9 0 0) ++ mW mo ma cs I Fm) ++ [(ou, .inl (cL, 1, .inr (.inl fo9)))]) ++ eP cI N9 Eo9 Er9 En9 Ez9 EF9) := va_D.part (cx := ((xU cI cB cE o9 r9 n9 z9 F9 G9 (Eo9 0 0) ++ mW mo ma cs I Fm) ++ [(ou, .inl (cL, 1, .inr (.inl fo9)))])) hD [29, 30, 31, 32, 33, 34, 35, 36, 37, 38, 39, 40, 41, 42, 43, 44, 45, 46, 47, 48, 49, 50, 51, 52, 53, 54, 55, 56, 57, 0, 1, 2, 3, 4, 5, 6, 7, 8, 9, 10, 11, 12, 13, 14, 15, 16, 17, 18, 19, 20, 21, 22, 23, 24, 25, 26, 27, 28, 58] lq_3 rfl
    obtain ⟨hok9, hxG9, hPE9, hcost, ho9, hrel⟩ := hq
    have hrelF := fun (_ : Unit) => hrel
    clear hrel
    have hlc := lcC hcl (Nat.le_trans hcost.1 (by decide)) hk01
    have hls := lcS hsl (Nat.le_trans hcost.2 (by decide)) hk01
    refine W.eq (g2 := F0 m 373 ls [.int (iz q9)]) rfl ?_
    refine lv_istore (lv' := [(5, .int (iz q9)), (4, .int (iz (4 * k))), (3, .ref ou), (2, .ref mo), (1, .ref (o 15)), (0, .ref b)]) hx hb dL_law_373 hl (by decide) rfl (fun ls hl => ?_)
    refine lv_aload_n hx hb dL_law_375 rfl (lv_at hl 3 rfl) ?_
    refine lv_aload_n hx hb dL_law_376 rfl (lv_at hl 5 rfl) ?_
    refine lv_iload hx hb dL_law_377 (lv_at hl 1 rfl) ?_
    refine lv_iconst (v := iz 1) hx hb dL_law_379 (by decide) ?_
    refine ki_iadd hx hb dL_law_380 ?_
    refine va_sld hx hb hX hbl hbA hS (iz_in (by omega) (by omega) (by omega)) dL_law_381 ?_
    refine ki_is ea1 ?_
    refine lv_aload_n hx hb dL_law_382 rfl (lv_at hl 5 rfl) ?_
    refine lv_iload hx hb dL_law_383 (lv_at hl 1 rfl) ?_
    refine lv_iconst (v := iz 2) hx hb dL_law_385 (by decide) ?_
    refine ki_iadd hx hb dL_law_386 ?_
    refine va_sld hx hb hX hbl hbA hS (iz_in (by omega) (by omega) (by omega)) dL_law_387 ?_
    refine ki_is ea2 ?_
    refine ki_if_eq (tgt := 395) hx hb dL_law_388 (by decide) (by omega) (by omega) (fun c_4 => ?_) (fun c_4 => ?_)
    · omega
    · skip
      refine lv_iconst (v := iz 1) hx hb dL_law_391 (by decide) ?_
      refine lv_goto (tgt := 396) hx hb dL_law_392 (by decide) ?_
      have hPc := hP.sub (ws' := mW mo ma cs I Fm) [29, 30, 31, 32, 33, 34, 35, 36, 37, 38, 39, 40, 41, 42, 43, 44, 45, 46, 47, 48, 49, 50, 51, 52, 53, 54, 55, 56, 57] rfl
      have hDc := hD.sub (ws' := mW mo ma cs I Fm) [29, 30, 31, 32, 33, 34, 35, 36, 37, 38, 39, 40, 41, 42, 43, 44, 45, 46, 47, 48, 49, 50, 51, 52, 53, 54, 55, 56, 57] lq_1 rfl
      have hFc := va_free (wc := mW mo ma cs I Fm) hD hS hA [29, 30, 31, 32, 33, 34, 35, 36, 37, 38, 39, 40, 41, 42, 43, 44, 45, 46, 47, 48, 49, 50, 51, 52, 53, 54, 55, 56, 57] rfl
      have hKc := hK.sub (tys' := mT cs) [3, 4, 5, 6, 7, 8, 9, 10, 11, 12, 13, 14, 15, 16, 17, 18, 19, 20, 21, 22, 23, 24, 25, 26, 27, 28, 29, 30] rfl
      refine va_calli (va_runV (As := [.int (iz a1), .int (iz 1)]) (rest := []) ⟨hx, hb, hml, hown, hts⟩ (k_rule l dC dI mo ma cs I Fm a1 1 H.size hI.1.hB hI.2.2.2.1 hI.2.2.2.2 (by omega) (by omega) (by omega)) (cwV 2 hts (kx_gV kq_92_law_33 kq_92_law_34 kq_92_law_35 kq_04_msmall_6 kq_92_law_36 rfl) rfl rfl rfl (by decide +kernel) ⟨Nat.le_of_ble_eq_true rfl, Nat.le_of_ble_eq_true rfl⟩) ⟨kx_blind, va_recv hKc hPc (ci := 6) (q0 := 0) rfl rfl, kx_give (ws := []) (tys := []) hPc hDc hKc hG hZ hS hFc⟩ rfl rfl hl.1 rfl (lv_room (Nat.le_of_ble_eq_true rfl)) dL_law_396 ⟨show (cells + dn9) + 0 ≤ 600384 from (Nat.le_trans hlc.2 (by decide)), show (slots + dm9) + 0 ≤ 7291369 from (Nat.le_trans hls.2 (by decide))⟩) hS (fun q _ h => hFc q h) hFc (fun r u t H1 locs ht hvm hw hB hz1 hk1 hS => ?_)
      obtain ⟨rr5, J5, G5m⟩ := u
      obtain ⟨hP1, hK1, hD1⟩ := hB
      rw [ht] at hP1
      obtain ⟨e1, hw⟩ := hw
      subst e1
      try dsimp only at hw
      obtain ⟨hP, hD⟩ := va_joinQ (wr := xU cI cB cE o9 r9 n9 z9 F9 G9 (Eo9 0 0) ++ [(ou, .inl (cL, 1, .inr (.inl fo9)))]) (w1 := mW mo ma cs J5 G5m) hP hD [29, 30, 31, 32, 33, 34, 35, 36, 37, 38, 39, 40, 41, 42, 43, 44, 45, 46, 47, 48, 49, 50, 51, 52, 53, 54, 55, 56, 57] [0, 1, 2, 3, 4, 5, 6, 7, 8, 9, 10, 11, 12, 13, 14, 15, 16, 17, 18, 19, 20, 21, 22, 23, 24, 25, 26, 27, 28, 58] rfl rfl lq_0 lq_4 hk1 hFc hP1 hD1
      generalize H1 = H at hP hS ⊢
      have hP : va_P (dC, dI) kxCl (((xU cI cB cE o9 r9 n9 z9 F9 G9 (Eo9 0 0) ++ mW mo ma cs J5 G5m) ++ [(ou, .inl (cL, 1, .inr (.inl fo9)))]) ++ eP cI N9 Eo9 Er9 En9 Ez9 EF9) H := va_P.part (cx := ((xU cI cB cE o9 r9 n9 z9 F9 G9 (Eo9 0 0) ++ mW mo ma cs J5 G5m) ++ [(ou, .inl (cL, 1, .inr (.inl fo9)))])) hP [0, 1, 2, 3, 4, 5, 6, 7, 8, 9, 10, 11, 12, 13, 14, 15, 16, 17, 18, 19, 20, 21, 22, 23, 24, 25, 26, 27, 28, 30, 31, 32, 33, 34, 35, 36, 37, 38, 39, 40, 41, 42, 43, 44, 45, 46, 47, 48, 49, 50, 51, 52, 53, 54, 55, 56, 57, 58, 29] rfl
      have hD : va_D (fun q : Nat => s.heap.size ≤ q) (((xU cI cB cE o9 r9 n9 z9 F9 G9 (Eo9 0 0) ++ mW mo ma cs J5 G5m) ++ [(ou, .inl (cL, 1, .inr (.inl fo9)))]) ++ eP cI N9 Eo9 Er9 En9 Ez9 EF9) := va_D.part (cx := ((xU cI cB cE o9 r9 n9 z9 F9 G9 (Eo9 0 0) ++ mW mo ma cs J5 G5m) ++ [(ou, .inl (cL, 1, .inr (.inl fo9)))])) hD [0, 1, 2, 3, 4, 5, 6, 7, 8, 9, 10, 11, 12, 13, 14, 15, 16, 17, 18, 19, 20, 21, 22, 23, 24, 25, 26, 27, 28, 30, 31, 32, 33, 34, 35, 36, 37, 38, 39, 40, 41, 42, 43, 44, 45, 46, 47, 48, 49, 50, 51, 52, 53, 54, 55, 56, 57, 58, 29] lq_5 rfl
      obtain ⟨hcode, hans, hR9, hI9, hQ9, hW9⟩ := sw_rule hI hk01.2 hR hQ hW (by decide) (wk_rule (hrelF ())) hw
      have hV9 := ss_rule hV (wk_rule (hrelF ())) hw
      obtain ⟨hPg9, hCk9⟩ := sp_rule hI hR hW hPg hCk (hrelF ()) hw
      have hY9 := sy_rule hYl (hrelF ()) hw
      have hO9 := so_rule hOl (hrelF ()) hw
      refine W.eq (g2 := F0 m 399 ls [.int (iz rr5)]) rfl ?_
      have hbq := hI9.1.hB.1 0
      refine lv_istore (lv' := [(6, .int (iz rr5)), (5, .int (iz q9)), (4, .int (iz (4 * k))), (3, .ref ou), (2, .ref mo), (1, .ref (o 15)), (0, .ref b)]) hx hb dL_law_399 hl (by decide) rfl (fun ls hl => ?_)
      refine lv_goto (tgt := 689) hx hb dL_law_401 (by decide) ?_
      exact kk o9 r9 n9 z9 F9 G9 N9 Eo9 Er9 En9 Ez9 EF9 fo9 J5 G5m H _ _ _ ls (ho9 15 (by decide) (by decide)) hok9 hxG9 hPE9 hI9 ⟨⟨⟨⟨hR9, hQ9, hW9, hV9⟩, hPg9, hCk9⟩, hY9⟩, hO9⟩ hP hD hS hlc.1 hls.1 (lv_sub hl [2, 3, 4, 5, 6] rfl)
set_option maxHeartbeats 4000000 in
set_option maxRecDepth 100000 in
theorem law_run {p : Program} {l : Launch} {e : Env} {s : State} {m : MethodId} {below : List Frame} {meth : Method} {c : Code} {b : Nat} {dC : Nat → ClassId} {dI : Nat → Nat → Nat} {cI cB cE cL : ClassId} {cs : Nat → ClassId} {mo : Nat} {ma : Nat → Nat} {ou xr : Nat} {L : Nat} {xs : Nat → Int32} {k : Int} (hlf : l.stackTraces = false) (C0 : lw_At p s m meth c b L xs) (hL : L ≤ 256) (hk : 0 ≤ k ∧ 4 * k + 4 ≤ (L : Int)) (hK : va_K (dC, dI) kxCl (lT cI cB cE cL cs) s) (kk : LW p l e s m below meth c b dC dI cI cB cE cL cs mo ma ou xr k (k + 1) 689) : LW p l e s m below meth c b dC dI cI cB cE cL cs mo ma ou xr k k 404 := by
  obtain ⟨hx, hb, hr, hml, hown, hts0, hX, hbl, hlocks, hgv⟩ := id C0
  have hown : s.vm.findClass RL = some m.cls := hown
  have hA : ∀ q : Nat, s.heap.size ≤ q → (fun q : Nat => s.heap.size ≤ q) q := fun _ h => h
  have hbA : ¬ (fun q : Nat => s.heap.size ≤ q) b := Nat.not_le.mpr hbl
  have hG : kx_G s := ⟨s, _, hts0, hgv, State.WarmedH.refl s⟩
  have hZ : kx_Z (fun q : Nat => s.heap.size ≤ q) s s.heap := law_Z hts0 hgv
  have hts := kx_hts (a := #[Value.ref b]) hG
  intro o r n z F G N Eo Er En Ez EF fo I Fm H locs cells slots ls hxr hok hxG hPE hI hR hP hD hS hcl hsl hl
  subst hxr
  obtain ⟨⟨hR, hYl⟩, hOl⟩ := hR
  obtain ⟨⟨hR, hQ, hW, hV⟩, hPg, hCk⟩ := hR
  obtain ⟨hN1, hN2, hN3, hN4⟩ := id hxG
  have hz78 := hR.2.1
  have hk64 := hI.2.1.1
  have hk01 : 0 ≤ k ∧ k < 64 := by omega
  obtain ⟨a1, ea1, a1l, a1h⟩ := iz_of (xs (iz (4 * k + 1)).toNatClampNeg)
  obtain ⟨a2, ea2, a2l, a2h⟩ := iz_of (xs (iz (4 * k + 2)).toNatClampNeg)
  obtain ⟨a3, ea3, a3l, a3h⟩ := iz_of (xs (iz (4 * k + 3)).toNatClampNeg)
  refine lv_aload_n hx hb dL_law_404 rfl (lv_at hl 3 rfl) ?_
  have hPc : va_P (dC, dI) kxCl (xU cI cB cE o r n z F G (Eo 0 0) ++ eP cI N Eo Er En Ez EF) H := va_P.part (cx := xU cI cB cE o r n z F G (Eo 0 0)) hP [0, 1, 2, 3, 4, 5, 6, 7, 8, 9, 10, 11, 12, 13, 14, 15, 16, 17, 18, 19, 20, 21, 22, 23, 24, 25, 26, 27, 28] rfl
  have hDc : va_D (fun q : Nat => s.heap.size ≤ q) (xU cI cB cE o r n z F G (Eo 0 0) ++ eP cI N Eo Er En Ez EF) := va_D.part (cx := xU cI cB cE o r n z F G (Eo 0 0)) hD [0, 1, 2, 3, 4, 5, 6, 7, 8, 9, 10, 11, 12, 13, 14, 15, 16, 17, 18, 19, 20, 21, 22, 23, 24, 25, 26, 27, 28] lq_6 rfl
  have hFc := va_freeP (cx := xU cI cB cE o r n z F G (Eo 0 0)) hD hS hA [0, 1, 2, 3, 4, 5, 6, 7, 8, 9, 10, 11, 12, 13, 14, 15, 16, 17, 18, 19, 20, 21, 22, 23, 24, 25, 26, 27, 28] rfl
  have hKc := hK.sub (tys' := xT cI cB cE) [0, 1, 2] rfl
  refine xk_call (va_runV (As := []) (rest := []) ⟨hx, hb, hml, hown, hts⟩ (y_run3 l dC dI cI cB cE o r n z F G N Eo Er En Ez EF (Fm 2) (Fm 3) (rs_wd Fm) (kf_oc I Fm) H.size hok hxG hPE (hW.H hR hQ hI) (by omega) hW.2.1) (cwV 0 hts (kx_gV kq_92_law_37 kq_92_law_38 kq_92_law_39 kq_18_xrows_4 kq_92_law_40 rfl) rfl rfl rfl (by decide +kernel) ⟨Nat.le_of_ble_eq_true rfl, Nat.le_of_ble_eq_true rfl⟩) ⟨kx_blind, va_recv hKc hPc (ci := 5) (q0 := 0) rfl rfl, kx_give (ws := []) (tys := []) hPc hDc hKc hG hZ hS hFc⟩ rfl rfl hl.1 rfl (lv_room (Nat.le_of_ble_eq_true rfl)) dL_law_405 ⟨show cells + 700 ≤ 600384 from (by omega), show slots + 350000 ≤ 7291369 from (by omega)⟩) hS (fun q _ h => hFc q h) hFc (fun u dn9 dm9 t H1 locs ht hvm hq hB hk1 hS => ?_)
  obtain ⟨q9, r9, n9, z9, F9, Er9, En9, Ez9, EF9⟩ := u
  obtain ⟨hP1, hK1, hD1⟩ := hB
  rw [ht] at hP1
  try dsimp only at hq
  obtain ⟨hP, hD⟩ := va_joinP (wr := mW mo ma cs I Fm ++ [(ou, .inl (cL, 1, .inr (.inl fo)))]) (rx := xU cI cB cE o r9 n9 z9 F9 G (Eo 0 0)) (pl1 := eP cI N Eo Er9 En9 Ez9 EF9) hP hD [0, 1, 2, 3, 4, 5, 6, 7, 8, 9, 10, 11, 12, 13, 14, 15, 16, 17, 18, 19, 20, 21, 22, 23, 24, 25, 26, 27, 28] [29, 30, 31, 32, 33, 34, 35, 36, 37, 38, 39, 40, 41, 42, 43, 44, 45, 46, 47, 48, 49, 50, 51, 52, 53, 54, 55, 56, 57, 58] rfl rfl lq_7 lq_8 hk1 hFc hP1 hD1
  generalize H1 = H at hP hS ⊢
  have hP : va_P (dC, dI) kxCl (((xU cI cB cE o r9 n9 z9 F9 G (Eo 0 0) ++ mW mo ma cs I Fm) ++ [(ou, .inl (cL, 1, .inr (.inl fo)))]) ++ eP cI N Eo Er9 En9 Ez9 EF9) H := va_P.part (cx := ((xU cI cB cE o r9 n9 z9 F9 G (Eo 0 0) ++ mW mo ma cs I Fm) ++ [(ou, .inl (cL, 1, .inr (.inl fo)))])) hP [30, 31, 32, 33, 34, 35, 36, 37, 38, 39, 40, 41, 42, 43, 44, 45, 46, 47, 48, 49, 50, 51, 52, 53, 54, 55, 56, 57, 58, 0, 1, 2, 3, 4, 5, 6, 7, 8, 9, 10, 11, 12, 13, 14, 15, 16, 17, 18, 19, 20, 21, 22, 23, 24, 25, 26, 27, 28, 29] rfl
  have hD : va_D (fun q : Nat => s.heap.size ≤ q) (((xU cI cB cE o r9 n9 z9 F9 G (Eo 0 0) ++ mW mo ma cs I Fm) ++ [(ou, .inl (cL, 1, .inr (.inl fo)))]) ++ eP cI N Eo Er9 En9 Ez9 EF9) := va_D.part (cx := ((xU cI cB cE o r9 n9 z9 F9 G (Eo 0 0) ++ mW mo ma cs I Fm) ++ [(ou, .inl (cL, 1, .inr (.inl fo)))])) hD [30, 31, 32, 33, 34, 35, 36, 37, 38, 39, 40, 41, 42, 43, 44, 45, 46, 47, 48, 49, 50, 51, 52, 53, 54, 55, 56, 57, 58, 0, 1, 2, 3, 4, 5, 6, 7, 8, 9, 10, 11, 12, 13, 14, 15, 16, 17, 18, 19, 20, 21, 22, 23, 24, 25, 26, 27, 28, 29] lq_9 rfl
  obtain ⟨hR9, hC9, hpo⟩ := hq
  have hxgl := xg_le n
  have hxpl := xp_le n
  have hz12 : z9 12 = z 12 := hR9.2.1.1 12 (by decide)
  have hok9 := hR9.1
  have hxG9 : xG N (z9 12) G Eo := ⟨by omega, by omega, by omega, fun e9 h9 => hN4 e9 (by omega)⟩
  have hPE9 := hR9.2.2.1
  have ho9 : ∀ k, k ≠ 10 → k ≠ 11 → o k = o k := fun _ _ _ => rfl
  have hcost : dn9 ≤ 92 ∧ dm9 ≤ 41760 := by omega
  have hlc := lcC hcl (Nat.le_trans hcost.1 (by decide)) hk01
  have hls := lcS hsl (Nat.le_trans hcost.2 (by decide)) hk01
  refine W.eq (g2 := F0 m 408 ls [.int (iz q9)]) rfl ?_
  have hz91 := hok9.1 1 (by decide)
  have hq9b : 0 ≤ q9 ∧ q9 ≤ 80 := by have h8 := hpo.2.2; have h7 : xL 1 = 80 := rfl; rw [h7] at hz91; omega
  refine lv_pop hx hb dL_law_408 rfl ?_
  refine lv_aload_n hx hb dL_law_409 rfl (lv_at hl 2 rfl) ?_
  have hPc := hP.sub (ws' := mW mo ma cs I Fm) [29, 30, 31, 32, 33, 34, 35, 36, 37, 38, 39, 40, 41, 42, 43, 44, 45, 46, 47, 48, 49, 50, 51, 52, 53, 54, 55, 56, 57] rfl
  have hDc := hD.sub (ws' := mW mo ma cs I Fm) [29, 30, 31, 32, 33, 34, 35, 36, 37, 38, 39, 40, 41, 42, 43, 44, 45, 46, 47, 48, 49, 50, 51, 52, 53, 54, 55, 56, 57] lq_1 rfl
  have hFc := va_free (wc := mW mo ma cs I Fm) hD hS hA [29, 30, 31, 32, 33, 34, 35, 36, 37, 38, 39, 40, 41, 42, 43, 44, 45, 46, 47, 48, 49, 50, 51, 52, 53, 54, 55, 56, 57] rfl
  have hKc := hK.sub (tys' := mT cs) [3, 4, 5, 6, 7, 8, 9, 10, 11, 12, 13, 14, 15, 16, 17, 18, 19, 20, 21, 22, 23, 24, 25, 26, 27, 28, 29, 30] rfl
  refine va_calli (va_runV (As := []) (rest := []) ⟨hx, hb, hml, hown, hts⟩ (k_run8 l dC dI mo ma cs I Fm  H.size hI.1 (hW.kb hQ hI)) (cwV 0 hts (kx_gV kq_92_law_41 kq_92_law_42 kq_92_law_43 kq_04_msmall_6 kq_92_law_44 rfl) rfl rfl rfl (by decide +kernel) ⟨Nat.le_of_ble_eq_true rfl, Nat.le_of_ble_eq_true rfl⟩) ⟨kx_blind, va_recv hKc hPc (ci := 6) (q0 := 0) rfl rfl, kx_give (ws := []) (tys := []) hPc hDc hKc hG hZ hS hFc⟩ rfl rfl hl.1 rfl (lv_room (Nat.le_of_ble_eq_true rfl)) dL_law_410 ⟨show (cells + dn9) + 0 ≤ 600384 from (Nat.le_trans hlc.2 (by decide)), show (slots + dm9) + 0 ≤ 7291369 from (Nat.le_trans hls.2 (by decide))⟩) hS (fun q _ h => hFc q h) hFc (fun r u t H1 locs ht hvm hw hB hz1 hk1 hS => ?_)
  obtain ⟨rr1, J1, G1m⟩ := u
  obtain ⟨hP1, hK1, hD1⟩ := hB
  rw [ht] at hP1
  obtain ⟨e1, hw⟩ := hw
  subst e1
  try dsimp only at hw
  obtain ⟨hP, hD⟩ := va_joinQ (wr := xU cI cB cE o r9 n9 z9 F9 G (Eo 0 0) ++ [(ou, .inl (cL, 1, .inr (.inl fo)))]) (w1 := mW mo ma cs J1 G1m) hP hD [29, 30, 31, 32, 33, 34, 35, 36, 37, 38, 39, 40, 41, 42, 43, 44, 45, 46, 47, 48, 49, 50, 51, 52, 53, 54, 55, 56, 57] [0, 1, 2, 3, 4, 5, 6, 7, 8, 9, 10, 11, 12, 13, 14, 15, 16, 17, 18, 19, 20, 21, 22, 23, 24, 25, 26, 27, 28, 58] rfl rfl lq_0 lq_4 hk1 hFc hP1 hD1
  generalize H1 = H at hP hS ⊢
  have hP : va_P (dC, dI) kxCl (((xU cI cB cE o r9 n9 z9 F9 G (Eo 0 0) ++ mW mo ma cs J1 G1m) ++ [(ou, .inl (cL, 1, .inr (.inl fo)))]) ++ eP cI N Eo Er9 En9 Ez9 EF9) H := va_P.part (cx := ((xU cI cB cE o r9 n9 z9 F9 G (Eo 0 0) ++ mW mo ma cs J1 G1m) ++ [(ou, .inl (cL, 1, .inr (.inl fo)))])) hP [0, 1, 2, 3, 4, 5, 6, 7, 8, 9, 10, 11, 12, 13, 14, 15, 16, 17, 18, 19, 20, 21, 22, 23, 24, 25, 26, 27, 28, 30, 31, 32, 33, 34, 35, 36, 37, 38, 39, 40, 41, 42, 43, 44, 45, 46, 47, 48, 49, 50, 51, 52, 53, 54, 55, 56, 57, 58, 29] rfl
  have hD : va_D (fun q : Nat => s.heap.size ≤ q) (((xU cI cB cE o r9 n9 z9 F9 G (Eo 0 0) ++ mW mo ma cs J1 G1m) ++ [(ou, .inl (cL, 1, .inr (.inl fo)))]) ++ eP cI N Eo Er9 En9 Ez9 EF9) := va_D.part (cx := ((xU cI cB cE o r9 n9 z9 F9 G (Eo 0 0) ++ mW mo ma cs J1 G1m) ++ [(ou, .inl (cL, 1, .inr (.inl fo)))])) hD [0, 1, 2, 3, 4, 5, 6, 7, 8, 9, 10, 11, 12, 13, 14, 15, 16, 17, 18, 19, 20, 21, 22, 23, 24, 25, 26, 27, 28, 30, 31, 32, 33, 34, 35, 36, 37, 38, 39, 40, 41, 42, 43, 44, 45, 46, 47, 48, 49, 50, 51, 52, 53, 54, 55, 56, 57, 58, 29] lq_5 rfl
  obtain ⟨hw, hwO⟩ := hw
  have hY9 := hYl.keep hR9.2.1 (by decide) (by decide) (hw.1.2.1.2 36 (by decide))
  have hO9 := hOl.keep hR9.2.1 (by decide) (by decide) hwO.1 hwO.2
  have hV9 := hV.ask hR9.2.2.2 (by decide) (by decide) hw.1
  have hPg9 := hPg.ask hR9.2.2.2 (by decide) (by decide) hw.1
  have hCk9 := hCk.finds hW hI hR hpo.1 hpo.2.1 hR9.2.1 hR9.2.2.2 (by decide) (by decide) (by decide) (by decide)
  obtain ⟨hrun, hR9, hI9, hQ9, hW9⟩ := sw_run hI hR hQ hW hR9.2.1 hR9.2.2.2 hz91.1 hpo hw
  refine W.eq (g2 := F0 m 413 ls [.int (iz rr1)]) rfl ?_
  refine lv_pop hx hb dL_law_413 rfl ?_
  refine lv_goto (tgt := 689) hx hb dL_law_414 (by decide) ?_
  exact kk o r9 n9 z9 F9 G N Eo Er9 En9 Ez9 EF9 fo J1 G1m H _ _ _ ls (ho9 15 (by decide) (by decide)) hok9 hxG9 hPE9 hI9 ⟨⟨⟨⟨hR9, hQ9, hW9, hV9⟩, hPg9, hCk9⟩, hY9⟩, hO9⟩ hP hD hS hlc.1 hls.1 (lv_sub hl [0, 1, 2, 3, 4] rfl)
set_option maxHeartbeats 4000000 in
set_option maxRecDepth 100000 in
theorem law_row {p : Program} {l : Launch} {e : Env} {s : State} {m : MethodId} {below : List Frame} {meth : Method} {c : Code} {b : Nat} {dC : Nat → ClassId} {dI : Nat → Nat → Nat} {cI cB cE cL : ClassId} {cs : Nat → ClassId} {mo : Nat} {ma : Nat → Nat} {ou xr : Nat} {L : Nat} {xs : Nat → Int32} {k : Int} (hlf : l.stackTraces = false) (C0 : lw_At p s m meth c b L xs) (hL : L ≤ 256) (hk : 0 ≤ k ∧ 4 * k + 4 ≤ (L : Int)) (hK : va_K (dC, dI) kxCl (lT cI cB cE cL cs) s) (kk : LW p l e s m below meth c b dC dI cI cB cE cL cs mo ma ou xr k (k + 1) 689) : LW p l e s m below meth c b dC dI cI cB cE cL cs mo ma ou xr k k 417 := by
  obtain ⟨hx, hb, hr, hml, hown, hts0, hX, hbl, hlocks, hgv⟩ := id C0
  have hown : s.vm.findClass RL = some m.cls := hown
  have hA : ∀ q : Nat, s.heap.size ≤ q → (fun q : Nat => s.heap.size ≤ q) q := fun _ h => h
  have hbA : ¬ (fun q : Nat => s.heap.size ≤ q) b := Nat.not_le.mpr hbl
  have hG : kx_G s := ⟨s, _, hts0, hgv, State.WarmedH.refl s⟩
  have hZ : kx_Z (fun q : Nat => s.heap.size ≤ q) s s.heap := law_Z hts0 hgv
  have hts := kx_hts (a := #[Value.ref b]) hG
  intro o r n z F G N Eo Er En Ez EF fo I Fm H locs cells slots ls hxr hok hxG hPE hI hR hP hD hS hcl hsl hl
  subst hxr
  obtain ⟨⟨hR, hYl⟩, hOl⟩ := hR
  obtain ⟨⟨hR, hQ, hW, hV⟩, hPg, hCk⟩ := hR
  obtain ⟨hN1, hN2, hN3, hN4⟩ := id hxG
  have hz78 := hR.2.1
  have hk64 := hI.2.1.1
  have hk01 : 0 ≤ k ∧ k < 64 := by omega
  obtain ⟨a1, ea1, a1l, a1h⟩ := iz_of (xs (iz (4 * k + 1)).toNatClampNeg)
  obtain ⟨a2, ea2, a2l, a2h⟩ := iz_of (xs (iz (4 * k + 2)).toNatClampNeg)
  obtain ⟨a3, ea3, a3l, a3h⟩ := iz_of (xs (iz (4 * k + 3)).toNatClampNeg)
  refine lv_aload_n hx hb dL_law_417 rfl (lv_at hl 3 rfl) ?_
  refine lv_aload_n hx hb dL_law_418 rfl (lv_at hl 4 rfl) ?_
  refine lv_iload hx hb dL_law_419 (lv_at hl 0 rfl) ?_
  refine lv_iconst (v := iz 1) hx hb dL_law_421 (by decide) ?_
  refine ki_iadd hx hb dL_law_422 ?_
  refine va_sld hx hb hX hbl hbA hS (iz_in (by omega) (by omega) (by omega)) dL_law_423 ?_
  refine ki_is ea1 ?_
  refine lv_aload_n hx hb dL_law_424 rfl (lv_at hl 4 rfl) ?_
  refine lv_iload hx hb dL_law_425 (lv_at hl 0 rfl) ?_
  refine lv_iconst (v := iz 2) hx hb dL_law_427 (by decide) ?_
  refine ki_iadd hx hb dL_law_428 ?_
  refine va_sld hx hb hX hbl hbA hS (iz_in (by omega) (by omega) (by omega)) dL_law_429 ?_
  refine ki_is ea2 ?_
  refine lv_aload_n hx hb dL_law_430 rfl (lv_at hl 1 rfl) ?_
  have hPc : va_P (dC, dI) kxCl ((xU cI cB cE o r n z F G (Eo 0 0) ++ [(ou, .inl (cL, 1, .inr (.inl fo)))]) ++ eP cI N Eo Er En Ez EF) H := va_P.part (cx := xU cI cB cE o r n z F G (Eo 0 0) ++ [(ou, .inl (cL, 1, .inr (.inl fo)))]) hP [0, 1, 2, 3, 4, 5, 6, 7, 8, 9, 10, 11, 12, 13, 14, 15, 16, 17, 18, 19, 20, 21, 22, 23, 24, 25, 26, 27, 28, 58] rfl
  have hDc : va_D (fun q : Nat => s.heap.size ≤ q) ((xU cI cB cE o r n z F G (Eo 0 0) ++ [(ou, .inl (cL, 1, .inr (.inl fo)))]) ++ eP cI N Eo Er En Ez EF) := va_D.part (cx := xU cI cB cE o r n z F G (Eo 0 0) ++ [(ou, .inl (cL, 1, .inr (.inl fo)))]) hD [0, 1, 2, 3, 4, 5, 6, 7, 8, 9, 10, 11, 12, 13, 14, 15, 16, 17, 18, 19, 20, 21, 22, 23, 24, 25, 26, 27, 28, 58] lq_0 rfl
  have hFc := va_freeP (cx := xU cI cB cE o r n z F G (Eo 0 0) ++ [(ou, .inl (cL, 1, .inr (.inl fo)))]) hD hS hA [0, 1, 2, 3, 4, 5, 6, 7, 8, 9, 10, 11, 12, 13, 14, 15, 16, 17, 18, 19, 20, 21, 22, 23, 24, 25, 26, 27, 28, 58] rfl
  have hKc := hK.sub (tys' := [(cI, .int), (cB, .byte), (cE, .object RX0), (cL, .long)]) [0, 1, 2, 31] rfl
  refine xk_call (vx_runSW (As := [.ref (o 15), .int (iz a1), .int (iz a2), .ref ou]) (rest := []) ⟨hx, hb, hml, hown, hts⟩ (h_row5 l hlf dC dI cI cB cE cL o r n z F G N Eo Er En Ez EF ou fo a1 a2 (Fm 2) (Fm 3) (rs_wd Fm) (kf_oc I Fm) H.size hok hxG hPE (by omega) (by omega) (by omega) (by omega) (hW.H hR hQ hI) (by omega) hW.2.1 (hPg.H hR.2.1) hCk) (vx_cwSW 4 hts (kx_gS kq_92_law_45 kq_92_law_46 kq_92_law_2 kq_25_xhelp_36 rfl) rfl rfl rfl (by decide +kernel) ⟨Nat.le_of_ble_eq_true rfl, Nat.le_of_ble_eq_true rfl⟩) ⟨kx_blind, kx_give (ws := []) (tys := []) hPc hDc hKc hG hZ hS hFc⟩ rfl rfl hl.1 rfl (lv_room (Nat.le_of_ble_eq_true rfl)) dL_law_431 ⟨show cells + 1200 ≤ 600384 from (by omega), show slots + 600000 ≤ 7291369 from (by omega)⟩) hS (fun q _ h => hFc q h) hFc (fun u dn9 dm9 t H1 locs ht hvm hq hB hk1 hS => ?_)
  obtain ⟨q9, fo9, o9, r9, n9, z9, F9, G9, N9, Eo9, Er9, En9, Ez9, EF9⟩ := u
  obtain ⟨hP1, hK1, hD1⟩ := hB
  rw [ht] at hP1
  try dsimp only at hq
  obtain ⟨hP, hD⟩ := va_joinP (wr := mW mo ma cs I Fm) (rx := xU cI cB cE o9 r9 n9 z9 F9 G9 (Eo9 0 0) ++ [(ou, .inl (cL, 1, .inr (.inl fo9)))]) (pl1 := eP cI N9 Eo9 Er9 En9 Ez9 EF9) hP hD [0, 1, 2, 3, 4, 5, 6, 7, 8, 9, 10, 11, 12, 13, 14, 15, 16, 17, 18, 19, 20, 21, 22, 23, 24, 25, 26, 27, 28, 58] [29, 30, 31, 32, 33, 34, 35, 36, 37, 38, 39, 40, 41, 42, 43, 44, 45, 46, 47, 48, 49, 50, 51, 52, 53, 54, 55, 56, 57] rfl rfl lq_1 lq_2 hk1 hFc hP1 hD1
  generalize H1 = H at hP hS ⊢
  have hP : va_P (dC, dI) kxCl (((xU cI cB cE o9 r9 n9 z9 F9 G9 (Eo9 0 0) ++ mW mo ma cs I Fm) ++ [(ou, .inl (cL, 1, .inr (.inl fo9)))]) ++ eP cI N9 Eo9 Er9 En9 Ez9 EF9) H := va_P.part (cx := ((xU cI cB cE o9 r9 n9 z9 F9 G9 (Eo9 0 0) ++ mW mo ma cs I Fm) ++ [(ou, .inl (cL, 1, .inr (.inl fo9)))])) hP [29, 30, 31, 32, 33, 34, 35, 36, 37, 38, 39, 40, 41, 42, 43, 44, 45, 46, 47, 48, 49, 50, 51, 52, 53, 54, 55, 56, 57, 0, 1, 2, 3, 4, 5, 6, 7, 8, 9, 10, 11, 12, 13, 14, 15, 16, 17, 18, 19, 20, 21, 22, 23, 24, 25, 26, 27, 28, 58] rfl
  have hD : va_D (fun q : Nat => s.heap.size ≤ q) (((xU cI cB cE o9 r9 n9 z9 F9 G9 (Eo9 0 0) ++ mW mo ma cs I Fm) ++ [(ou, .inl (cL, 1, .inr (.inl fo9)))]) ++ eP cI N9 Eo9 Er9 En9 Ez9 EF9) := va_D.part (cx := ((xU cI cB cE o9 r9 n9 z9 F9 G9 (Eo9 0 0) ++ mW mo ma cs I Fm) ++ [(ou, .inl (cL, 1, .inr (.inl fo9)))])) hD [29, 30, 31, 32, 33, 34, 35, 36, 37, 38, 39, 40, 41, 42, 43, 44, 45, 46, 47, 48, 49, 50, 51, 52, 53, 54, 55, 56, 57, 0, 1, 2, 3, 4, 5, 6, 7, 8, 9, 10, 11, 12, 13, 14, 15, 16, 17, 18, 19, 20, 21, 22, 23, 24, 25, 26, 27, 28, 58] lq_3 rfl
  obtain ⟨hok9, hxG9, hPE9, hcost, ho9, hrel⟩ := hq
  have hrelF := fun (_ : Unit) => hrel
  clear hrel
  have hlc := lcC hcl (Nat.le_trans hcost.1 (by decide)) hk01
  have hls := lcS hsl (Nat.le_trans hcost.2 (by decide)) hk01
  refine W.eq (g2 := F0 m 434 ls [.int (iz q9)]) rfl ?_
  refine lv_istore (lv' := [(5, .int (iz q9)), (4, .int (iz (4 * k))), (3, .ref ou), (2, .ref mo), (1, .ref (o 15)), (0, .ref b)]) hx hb dL_law_434 hl (by decide) rfl (fun ls hl => ?_)
  refine lv_aload_n hx hb dL_law_436 rfl (lv_at hl 3 rfl) ?_
  refine lv_aload_n hx hb dL_law_437 rfl (lv_at hl 5 rfl) ?_
  refine lv_iload hx hb dL_law_438 (lv_at hl 1 rfl) ?_
  refine lv_iconst (v := iz 1) hx hb dL_law_440 (by decide) ?_
  refine ki_iadd hx hb dL_law_441 ?_
  refine va_sld hx hb hX hbl hbA hS (iz_in (by omega) (by omega) (by omega)) dL_law_442 ?_
  refine ki_is ea1 ?_
  refine lv_aload_n hx hb dL_law_443 rfl (lv_at hl 5 rfl) ?_
  refine lv_iload hx hb dL_law_444 (lv_at hl 1 rfl) ?_
  refine lv_iconst (v := iz 2) hx hb dL_law_446 (by decide) ?_
  refine ki_iadd hx hb dL_law_447 ?_
  refine va_sld hx hb hX hbl hbA hS (iz_in (by omega) (by omega) (by omega)) dL_law_448 ?_
  refine ki_is ea2 ?_
  have hPc := hP.sub (ws' := mW mo ma cs I Fm) [29, 30, 31, 32, 33, 34, 35, 36, 37, 38, 39, 40, 41, 42, 43, 44, 45, 46, 47, 48, 49, 50, 51, 52, 53, 54, 55, 56, 57] rfl
  have hDc := hD.sub (ws' := mW mo ma cs I Fm) [29, 30, 31, 32, 33, 34, 35, 36, 37, 38, 39, 40, 41, 42, 43, 44, 45, 46, 47, 48, 49, 50, 51, 52, 53, 54, 55, 56, 57] lq_1 rfl
  have hFc := va_free (wc := mW mo ma cs I Fm) hD hS hA [29, 30, 31, 32, 33, 34, 35, 36, 37, 38, 39, 40, 41, 42, 43, 44, 45, 46, 47, 48, 49, 50, 51, 52, 53, 54, 55, 56, 57] rfl
  have hKc := hK.sub (tys' := mT cs) [3, 4, 5, 6, 7, 8, 9, 10, 11, 12, 13, 14, 15, 16, 17, 18, 19, 20, 21, 22, 23, 24, 25, 26, 27, 28, 29, 30] rfl
  refine va_calli (va_runV (As := [.int (iz a1), .int (iz a2)]) (rest := []) ⟨hx, hb, hml, hown, hts⟩ (k_row8 l dC dI mo ma cs I Fm a1 a2 H.size hI.1 (by omega) (by omega) (by omega) (by omega) (hW.kb hQ hI)) (cwV 2 hts (kx_gV kq_92_law_47 kq_92_law_48 kq_92_law_49 kq_04_msmall_6 kq_92_law_50 rfl) rfl rfl rfl (by decide +kernel) ⟨Nat.le_of_ble_eq_true rfl, Nat.le_of_ble_eq_true rfl⟩) ⟨kx_blind, va_recv hKc hPc (ci := 6) (q0 := 0) rfl rfl, kx_give (ws := []) (tys := []) hPc hDc hKc hG hZ hS hFc⟩ rfl rfl hl.1 rfl (lv_room (Nat.le_of_ble_eq_true rfl)) dL_law_449 ⟨show (cells + dn9) + 0 ≤ 600384 from (Nat.le_trans hlc.2 (by decide)), show (slots + dm9) + 0 ≤ 7291369 from (Nat.le_trans hls.2 (by decide))⟩) hS (fun q _ h => hFc q h) hFc (fun r u t H1 locs ht hvm hw hB hz1 hk1 hS => ?_)
  obtain ⟨rr1, J1, G1m⟩ := u
  obtain ⟨hP1, hK1, hD1⟩ := hB
  rw [ht] at hP1
  obtain ⟨e1, hw⟩ := hw
  subst e1
  try dsimp only at hw
  obtain ⟨hP, hD⟩ := va_joinQ (wr := xU cI cB cE o9 r9 n9 z9 F9 G9 (Eo9 0 0) ++ [(ou, .inl (cL, 1, .inr (.inl fo9)))]) (w1 := mW mo ma cs J1 G1m) hP hD [29, 30, 31, 32, 33, 34, 35, 36, 37, 38, 39, 40, 41, 42, 43, 44, 45, 46, 47, 48, 49, 50, 51, 52, 53, 54, 55, 56, 57] [0, 1, 2, 3, 4, 5, 6, 7, 8, 9, 10, 11, 12, 13, 14, 15, 16, 17, 18, 19, 20, 21, 22, 23, 24, 25, 26, 27, 28, 58] rfl rfl lq_0 lq_4 hk1 hFc hP1 hD1
  generalize H1 = H at hP hS ⊢
  have hP : va_P (dC, dI) kxCl (((xU cI cB cE o9 r9 n9 z9 F9 G9 (Eo9 0 0) ++ mW mo ma cs J1 G1m) ++ [(ou, .inl (cL, 1, .inr (.inl fo9)))]) ++ eP cI N9 Eo9 Er9 En9 Ez9 EF9) H := va_P.part (cx := ((xU cI cB cE o9 r9 n9 z9 F9 G9 (Eo9 0 0) ++ mW mo ma cs J1 G1m) ++ [(ou, .inl (cL, 1, .inr (.inl fo9)))])) hP [0, 1, 2, 3, 4, 5, 6, 7, 8, 9, 10, 11, 12, 13, 14, 15, 16, 17, 18, 19, 20, 21, 22, 23, 24, 25, 26, 27, 28, 30, 31, 32, 33, 34, 35, 36, 37, 38, 39, 40, 41, 42, 43, 44, 45, 46, 47, 48, 49, 50, 51, 52, 53, 54, 55, 56, 57, 58, 29] rfl
  have hD : va_D (fun q : Nat => s.heap.size ≤ q) (((xU cI cB cE o9 r9 n9 z9 F9 G9 (Eo9 0 0) ++ mW mo ma cs J1 G1m) ++ [(ou, .inl (cL, 1, .inr (.inl fo9)))]) ++ eP cI N9 Eo9 Er9 En9 Ez9 EF9) := va_D.part (cx := ((xU cI cB cE o9 r9 n9 z9 F9 G9 (Eo9 0 0) ++ mW mo ma cs J1 G1m) ++ [(ou, .inl (cL, 1, .inr (.inl fo9)))])) hD [0, 1, 2, 3, 4, 5, 6, 7, 8, 9, 10, 11, 12, 13, 14, 15, 16, 17, 18, 19, 20, 21, 22, 23, 24, 25, 26, 27, 28, 30, 31, 32, 33, 34, 35, 36, 37, 38, 39, 40, 41, 42, 43, 44, 45, 46, 47, 48, 49, 50, 51, 52, 53, 54, 55, 56, 57, 58, 29] lq_5 rfl
  obtain ⟨hR9, hI9, hQ9, hW9⟩ := sw_row hI hR hQ hW (wk_row (hrelF ())) hw.1
  have hV9 := ss_row hV (wk_row (hrelF ())) hw.1.1
  obtain ⟨hPg9, hCk9⟩ := sp_row hI hR hW hPg hCk (hrelF ()) hw.1.1
  have hY9 := sy_row hYl (hrelF ()) hw.1.1
  have hO9 := so_row hOl (hrelF ()) hw.2
  refine W.eq (g2 := F0 m 452 ls [.int (iz rr1)]) rfl ?_
  refine lv_istore (lv' := [(6, .int (iz rr1)), (5, .int (iz q9)), (4, .int (iz (4 * k))), (3, .ref ou), (2, .ref mo), (1, .ref (o 15)), (0, .ref b)]) hx hb dL_law_452 hl (by decide) rfl (fun ls hl => ?_)
  refine lv_goto (tgt := 689) hx hb dL_law_454 (by decide) ?_
  exact kk o9 r9 n9 z9 F9 G9 N9 Eo9 Er9 En9 Ez9 EF9 fo9 J1 G1m H _ _ _ ls (ho9 15 (by decide) (by decide)) hok9 hxG9 hPE9 hI9 ⟨⟨⟨⟨hR9, hQ9, hW9, hV9⟩, hPg9, hCk9⟩, hY9⟩, hO9⟩ hP hD hS hlc.1 hls.1 (lv_sub hl [2, 3, 4, 5, 6] rfl)
set_option maxHeartbeats 4000000 in
set_option maxRecDepth 100000 in
theorem law_locator {p : Program} {l : Launch} {e : Env} {s : State} {m : MethodId} {below : List Frame} {meth : Method} {c : Code} {b : Nat} {dC : Nat → ClassId} {dI : Nat → Nat → Nat} {cI cB cE cL : ClassId} {cs : Nat → ClassId} {mo : Nat} {ma : Nat → Nat} {ou xr : Nat} {L : Nat} {xs : Nat → Int32} {k : Int} (hlf : l.stackTraces = false) (C0 : lw_At p s m meth c b L xs) (hL : L ≤ 256) (hk : 0 ≤ k ∧ 4 * k + 4 ≤ (L : Int)) (hK : va_K (dC, dI) kxCl (lT cI cB cE cL cs) s) (kk : LW p l e s m below meth c b dC dI cI cB cE cL cs mo ma ou xr k (k + 1) 689) : LW p l e s m below meth c b dC dI cI cB cE cL cs mo ma ou xr k k 457 := by
  obtain ⟨hx, hb, hr, hml, hown, hts0, hX, hbl, hlocks, hgv⟩ := id C0
  have hown : s.vm.findClass RL = some m.cls := hown
  have hA : ∀ q : Nat, s.heap.size ≤ q → (fun q : Nat => s.heap.size ≤ q) q := fun _ h => h
  have hbA : ¬ (fun q : Nat => s.heap.size ≤ q) b := Nat.not_le.mpr hbl
  have hG : kx_G s := ⟨s, _, hts0, hgv, State.WarmedH.refl s⟩
  have hZ : kx_Z (fun q : Nat => s.heap.size ≤ q) s s.heap := law_Z hts0 hgv
  have hts := kx_hts (a := #[Value.ref b]) hG
  intro o r n z F G N Eo Er En Ez EF fo I Fm H locs cells slots ls hxr hok hxG hPE hI hR hP hD hS hcl hsl hl
  subst hxr
  obtain ⟨⟨hR, hYl⟩, hOl⟩ := hR
  obtain ⟨⟨hR, hQ, hW, hV⟩, hPg, hCk⟩ := hR
  obtain ⟨hN1, hN2, hN3, hN4⟩ := id hxG
  have hz78 := hR.2.1
  have hk64 := hI.2.1.1
  have hk01 : 0 ≤ k ∧ k < 64 := by omega
  obtain ⟨a1, ea1, a1l, a1h⟩ := iz_of (xs (iz (4 * k + 1)).toNatClampNeg)
  obtain ⟨a2, ea2, a2l, a2h⟩ := iz_of (xs (iz (4 * k + 2)).toNatClampNeg)
  obtain ⟨a3, ea3, a3l, a3h⟩ := iz_of (xs (iz (4 * k + 3)).toNatClampNeg)
  refine lv_aload_n hx hb dL_law_457 rfl (lv_at hl 3 rfl) ?_
  refine lv_aload_n hx hb dL_law_458 rfl (lv_at hl 4 rfl) ?_
  refine lv_iload hx hb dL_law_459 (lv_at hl 0 rfl) ?_
  refine lv_iconst (v := iz 1) hx hb dL_law_461 (by decide) ?_
  refine ki_iadd hx hb dL_law_462 ?_
  refine va_sld hx hb hX hbl hbA hS (iz_in (by omega) (by omega) (by omega)) dL_law_463 ?_
  refine ki_is ea1 ?_
  refine lv_aload_n hx hb dL_law_464 rfl (lv_at hl 4 rfl) ?_
  refine lv_iload hx hb dL_law_465 (lv_at hl 0 rfl) ?_
  refine lv_iconst (v := iz 2) hx hb dL_law_467 (by decide) ?_
  refine ki_iadd hx hb dL_law_468 ?_
  refine va_sld hx hb hX hbl hbA hS (iz_in (by omega) (by omega) (by omega)) dL_law_469 ?_
  refine ki_is ea2 ?_
  refine lv_aload_n hx hb dL_law_470 rfl (lv_at hl 4 rfl) ?_
  refine lv_iload hx hb dL_law_471 (lv_at hl 0 rfl) ?_
  refine lv_iconst (v := iz 3) hx hb dL_law_473 (by decide) ?_
  refine ki_iadd hx hb dL_law_474 ?_
  refine va_sld hx hb hX hbl hbA hS (iz_in (by omega) (by omega) (by omega)) dL_law_475 ?_
  refine ki_is ea3 ?_
  refine lv_aload_n hx hb dL_law_476 rfl (lv_at hl 1 rfl) ?_
  have hPc : va_P (dC, dI) kxCl ((xU cI cB cE o r n z F G (Eo 0 0) ++ [(ou, .inl (cL, 1, .inr (.inl fo)))]) ++ eP cI N Eo Er En Ez EF) H := va_P.part (cx := xU cI cB cE o r n z F G (Eo 0 0) ++ [(ou, .inl (cL, 1, .inr (.inl fo)))]) hP [0, 1, 2, 3, 4, 5, 6, 7, 8, 9, 10, 11, 12, 13, 14, 15, 16, 17, 18, 19, 20, 21, 22, 23, 24, 25, 26, 27, 28, 58] rfl
  have hDc : va_D (fun q : Nat => s.heap.size ≤ q) ((xU cI cB cE o r n z F G (Eo 0 0) ++ [(ou, .inl (cL, 1, .inr (.inl fo)))]) ++ eP cI N Eo Er En Ez EF) := va_D.part (cx := xU cI cB cE o r n z F G (Eo 0 0) ++ [(ou, .inl (cL, 1, .inr (.inl fo)))]) hD [0, 1, 2, 3, 4, 5, 6, 7, 8, 9, 10, 11, 12, 13, 14, 15, 16, 17, 18, 19, 20, 21, 22, 23, 24, 25, 26, 27, 28, 58] lq_0 rfl
  have hFc := va_freeP (cx := xU cI cB cE o r n z F G (Eo 0 0) ++ [(ou, .inl (cL, 1, .inr (.inl fo)))]) hD hS hA [0, 1, 2, 3, 4, 5, 6, 7, 8, 9, 10, 11, 12, 13, 14, 15, 16, 17, 18, 19, 20, 21, 22, 23, 24, 25, 26, 27, 28, 58] rfl
  have hKc := hK.sub (tys' := [(cI, .int), (cB, .byte), (cE, .object RX0), (cL, .long)]) [0, 1, 2, 31] rfl
  refine xk_call (vx_runSW (As := [.ref (o 15), .int (iz a1), .int (iz a2), .int (iz a3), .ref ou]) (rest := []) ⟨hx, hb, hml, hown, hts⟩ (h_locator5 l hlf dC dI cI cB cE cL o r n z F G N Eo Er En Ez EF ou fo a1 a2 a3 (Fm 2) (Fm 3) (rs_wd Fm) (kf_oc I Fm) H.size hok hxG hPE (by omega) (by omega) (by omega) (by omega) (by omega) (by omega) (hW.H hR hQ hI) (by omega) hW.2.1 (hPg.H hR.2.1) hCk) (vx_cwSW 5 hts (kx_gS kq_92_law_51 kq_92_law_52 kq_92_law_2 kq_25_xhelp_43 rfl) rfl rfl rfl (by decide +kernel) ⟨Nat.le_of_ble_eq_true rfl, Nat.le_of_ble_eq_true rfl⟩) ⟨kx_blind, kx_give (ws := []) (tys := []) hPc hDc hKc hG hZ hS hFc⟩ rfl rfl hl.1 rfl (lv_room (Nat.le_of_ble_eq_true rfl)) dL_law_477 ⟨show cells + 1200 ≤ 600384 from (by omega), show slots + 600000 ≤ 7291369 from (by omega)⟩) hS (fun q _ h => hFc q h) hFc (fun u dn9 dm9 t H1 locs ht hvm hq hB hk1 hS => ?_)
  obtain ⟨q9, fo9, o9, r9, n9, z9, F9, G9, N9, Eo9, Er9, En9, Ez9, EF9⟩ := u
  obtain ⟨hP1, hK1, hD1⟩ := hB
  rw [ht] at hP1
  try dsimp only at hq
  obtain ⟨hP, hD⟩ := va_joinP (wr := mW mo ma cs I Fm) (rx := xU cI cB cE o9 r9 n9 z9 F9 G9 (Eo9 0 0) ++ [(ou, .inl (cL, 1, .inr (.inl fo9)))]) (pl1 := eP cI N9 Eo9 Er9 En9 Ez9 EF9) hP hD [0, 1, 2, 3, 4, 5, 6, 7, 8, 9, 10, 11, 12, 13, 14, 15, 16, 17, 18, 19, 20, 21, 22, 23, 24, 25, 26, 27, 28, 58] [29, 30, 31, 32, 33, 34, 35, 36, 37, 38, 39, 40, 41, 42, 43, 44, 45, 46, 47, 48, 49, 50, 51, 52, 53, 54, 55, 56, 57] rfl rfl lq_1 lq_2 hk1 hFc hP1 hD1
  generalize H1 = H at hP hS ⊢
  have hP : va_P (dC, dI) kxCl (((xU cI cB cE o9 r9 n9 z9 F9 G9 (Eo9 0 0) ++ mW mo ma cs I Fm) ++ [(ou, .inl (cL, 1, .inr (.inl fo9)))]) ++ eP cI N9 Eo9 Er9 En9 Ez9 EF9) H := va_P.part (cx := ((xU cI cB cE o9 r9 n9 z9 F9 G9 (Eo9 0 0) ++ mW mo ma cs I Fm) ++ [(ou, .inl (cL, 1, .inr (.inl fo9)))])) hP [29, 30, 31, 32, 33, 34, 35, 36, 37, 38, 39, 40, 41, 42, 43, 44, 45, 46, 47, 48, 49, 50, 51, 52, 53, 54, 55, 56, 57, 0, 1, 2, 3, 4, 5, 6, 7, 8, 9, 10, 11, 12, 13, 14, 15, 16, 17, 18, 19, 20, 21, 22, 23, 24, 25, 26, 27, 28, 58] rfl
  have hD : va_D (fun q : Nat => s.heap.size ≤ q) (((xU cI cB cE o9 r9 n9 z9 F9 G9 (Eo9 0 0) ++ mW mo ma cs I Fm) ++ [(ou, .inl (cL, 1, .inr (.inl fo9)))]) ++ eP cI N9 Eo9 Er9 En9 Ez9 EF9) := va_D.part (cx := ((xU cI cB cE o9 r9 n9 z9 F9 G9 (Eo9 0 0) ++ mW mo ma cs I Fm) ++ [(ou, .inl (cL, 1, .inr (.inl fo9)))])) hD [29, 30, 31, 32, 33, 34, 35, 36, 37, 38, 39, 40, 41, 42, 43, 44, 45, 46, 47, 48, 49, 50, 51, 52, 53, 54, 55, 56, 57, 0, 1, 2, 3, 4, 5, 6, 7, 8, 9, 10, 11, 12, 13, 14, 15, 16, 17, 18, 19, 20, 21, 22, 23, 24, 25, 26, 27, 28, 58] lq_3 rfl
  obtain ⟨hok9, hxG9, hPE9, hcost, ho9, hrel⟩ := hq
  have hrelF := fun (_ : Unit) => hrel
  clear hrel
  have hlc := lcC hcl (Nat.le_trans hcost.1 (by decide)) hk01
  have hls := lcS hsl (Nat.le_trans hcost.2 (by decide)) hk01
  refine W.eq (g2 := F0 m 480 ls [.int (iz q9)]) rfl ?_
  refine lv_istore (lv' := [(5, .int (iz q9)), (4, .int (iz (4 * k))), (3, .ref ou), (2, .ref mo), (1, .ref (o 15)), (0, .ref b)]) hx hb dL_law_480 hl (by decide) rfl (fun ls hl => ?_)
  refine lv_aload_n hx hb dL_law_482 rfl (lv_at hl 3 rfl) ?_
  refine lv_aload_n hx hb dL_law_483 rfl (lv_at hl 5 rfl) ?_
  refine lv_iload hx hb dL_law_484 (lv_at hl 1 rfl) ?_
  refine lv_iconst (v := iz 1) hx hb dL_law_486 (by decide) ?_
  refine ki_iadd hx hb dL_law_487 ?_
  refine va_sld hx hb hX hbl hbA hS (iz_in (by omega) (by omega) (by omega)) dL_law_488 ?_
  refine ki_is ea1 ?_
  refine lv_aload_n hx hb dL_law_489 rfl (lv_at hl 5 rfl) ?_
  refine lv_iload hx hb dL_law_490 (lv_at hl 1 rfl) ?_
  refine lv_iconst (v := iz 2) hx hb dL_law_492 (by decide) ?_
  refine ki_iadd hx hb dL_law_493 ?_
  refine va_sld hx hb hX hbl hbA hS (iz_in (by omega) (by omega) (by omega)) dL_law_494 ?_
  refine ki_is ea2 ?_
  refine lv_aload_n hx hb dL_law_495 rfl (lv_at hl 5 rfl) ?_
  refine lv_iload hx hb dL_law_496 (lv_at hl 1 rfl) ?_
  refine lv_iconst (v := iz 3) hx hb dL_law_498 (by decide) ?_
  refine ki_iadd hx hb dL_law_499 ?_
  refine va_sld hx hb hX hbl hbA hS (iz_in (by omega) (by omega) (by omega)) dL_law_500 ?_
  refine ki_is ea3 ?_
  have hPc := hP.sub (ws' := mW mo ma cs I Fm) [29, 30, 31, 32, 33, 34, 35, 36, 37, 38, 39, 40, 41, 42, 43, 44, 45, 46, 47, 48, 49, 50, 51, 52, 53, 54, 55, 56, 57] rfl
  have hDc := hD.sub (ws' := mW mo ma cs I Fm) [29, 30, 31, 32, 33, 34, 35, 36, 37, 38, 39, 40, 41, 42, 43, 44, 45, 46, 47, 48, 49, 50, 51, 52, 53, 54, 55, 56, 57] lq_1 rfl
  have hFc := va_free (wc := mW mo ma cs I Fm) hD hS hA [29, 30, 31, 32, 33, 34, 35, 36, 37, 38, 39, 40, 41, 42, 43, 44, 45, 46, 47, 48, 49, 50, 51, 52, 53, 54, 55, 56, 57] rfl
  have hKc := hK.sub (tys' := mT cs) [3, 4, 5, 6, 7, 8, 9, 10, 11, 12, 13, 14, 15, 16, 17, 18, 19, 20, 21, 22, 23, 24, 25, 26, 27, 28, 29, 30] rfl
  refine va_calli (va_runV (As := [.int (iz a1), .int (iz a2), .int (iz a3)]) (rest := []) ⟨hx, hb, hml, hown, hts⟩ (k_locator8 l dC dI mo ma cs I Fm a1 a2 a3 H.size hI.1 (by omega) (by omega) (by omega) (by omega) (by omega) (by omega) (hW.kb hQ hI)) (cwV 3 hts (kx_gV kq_92_law_53 kq_92_law_54 kq_92_law_55 kq_04_msmall_6 kq_92_law_56 rfl) rfl rfl rfl (by decide +kernel) ⟨Nat.le_of_ble_eq_true rfl, Nat.le_of_ble_eq_true rfl⟩) ⟨kx_blind, va_recv hKc hPc (ci := 6) (q0 := 0) rfl rfl, kx_give (ws := []) (tys := []) hPc hDc hKc hG hZ hS hFc⟩ rfl rfl hl.1 rfl (lv_room (Nat.le_of_ble_eq_true rfl)) dL_law_501 ⟨show (cells + dn9) + 0 ≤ 600384 from (Nat.le_trans hlc.2 (by decide)), show (slots + dm9) + 0 ≤ 7291369 from (Nat.le_trans hls.2 (by decide))⟩) hS (fun q _ h => hFc q h) hFc (fun r u t H1 locs ht hvm hw hB hz1 hk1 hS => ?_)
  obtain ⟨rr1, J1, G1m⟩ := u
  obtain ⟨hP1, hK1, hD1⟩ := hB
  rw [ht] at hP1
  obtain ⟨e1, hw⟩ := hw
  subst e1
  try dsimp only at hw
  obtain ⟨hP, hD⟩ := va_joinQ (wr := xU cI cB cE o9 r9 n9 z9 F9 G9 (Eo9 0 0) ++ [(ou, .inl (cL, 1, .inr (.inl fo9)))]) (w1 := mW mo ma cs J1 G1m) hP hD [29, 30, 31, 32, 33, 34, 35, 36, 37, 38, 39, 40, 41, 42, 43, 44, 45, 46, 47, 48, 49, 50, 51, 52, 53, 54, 55, 56, 57] [0, 1, 2, 3, 4, 5, 6, 7, 8, 9, 10, 11, 12, 13, 14, 15, 16, 17, 18, 19, 20, 21, 22, 23, 24, 25, 26, 27, 28, 58] rfl rfl lq_0 lq_4 hk1 hFc hP1 hD1
  generalize H1 = H at hP hS ⊢
  have hP : va_P (dC, dI) kxCl (((xU cI cB cE o9 r9 n9 z9 F9 G9 (Eo9 0 0) ++ mW mo ma cs J1 G1m) ++ [(ou, .inl (cL, 1, .inr (.inl fo9)))]) ++ eP cI N9 Eo9 Er9 En9 Ez9 EF9) H := va_P.part (cx := ((xU cI cB cE o9 r9 n9 z9 F9 G9 (Eo9 0 0) ++ mW mo ma cs J1 G1m) ++ [(ou, .inl (cL, 1, .inr (.inl fo9)))])) hP [0, 1, 2, 3, 4, 5, 6, 7, 8, 9, 10, 11, 12, 13, 14, 15, 16, 17, 18, 19, 20, 21, 22, 23, 24, 25, 26, 27, 28, 30, 31, 32, 33, 34, 35, 36, 37, 38, 39, 40, 41, 42, 43, 44, 45, 46, 47, 48, 49, 50, 51, 52, 53, 54, 55, 56, 57, 58, 29] rfl
  have hD : va_D (fun q : Nat => s.heap.size ≤ q) (((xU cI cB cE o9 r9 n9 z9 F9 G9 (Eo9 0 0) ++ mW mo ma cs J1 G1m) ++ [(ou, .inl (cL, 1, .inr (.inl fo9)))]) ++ eP cI N9 Eo9 Er9 En9 Ez9 EF9) := va_D.part (cx := ((xU cI cB cE o9 r9 n9 z9 F9 G9 (Eo9 0 0) ++ mW mo ma cs J1 G1m) ++ [(ou, .inl (cL, 1, .inr (.inl fo9)))])) hD [0, 1, 2, 3, 4, 5, 6, 7, 8, 9, 10, 11, 12, 13, 14, 15, 16, 17, 18, 19, 20, 21, 22, 23, 24, 25, 26, 27, 28, 30, 31, 32, 33, 34, 35, 36, 37, 38, 39, 40, 41, 42, 43, 44, 45, 46, 47, 48, 49, 50, 51, 52, 53, 54, 55, 56, 57, 58, 29] lq_5 rfl
  obtain ⟨hR9, hI9, hQ9, hW9⟩ := sw_locator hI hR hQ hW (wk_locator (hrelF ())) hw.1
  have hV9 := ss_locator hV (wk_locator (hrelF ())) hw.1.1
  obtain ⟨hPg9, hCk9⟩ := sq_locator hPg (hrelF ()) hw.1.1
  have hY9 := sy_locator hYl (hrelF ()) hw.1.1
  have hO9 := so_locator hOl (hrelF ()) hw.2
  refine W.eq (g2 := F0 m 504 ls [.int (iz rr1)]) rfl ?_
  refine lv_istore (lv' := [(6, .int (iz rr1)), (5, .int (iz q9)), (4, .int (iz (4 * k))), (3, .ref ou), (2, .ref mo), (1, .ref (o 15)), (0, .ref b)]) hx hb dL_law_504 hl (by decide) rfl (fun ls hl => ?_)
  refine lv_goto (tgt := 689) hx hb dL_law_506 (by decide) ?_
  exact kk o9 r9 n9 z9 F9 G9 N9 Eo9 Er9 En9 Ez9 EF9 fo9 J1 G1m H _ _ _ ls (ho9 15 (by decide) (by decide)) hok9 hxG9 hPE9 hI9 ⟨⟨⟨⟨hR9, hQ9, hW9, hV9⟩, hPg9, hCk9⟩, hY9⟩, hO9⟩ hP hD hS hlc.1 hls.1 (lv_sub hl [2, 3, 4, 5, 6] rfl)
set_option maxHeartbeats 4000000 in
set_option maxRecDepth 100000 in
theorem law_compare {p : Program} {l : Launch} {e : Env} {s : State} {m : MethodId} {below : List Frame} {meth : Method} {c : Code} {b : Nat} {dC : Nat → ClassId} {dI : Nat → Nat → Nat} {cI cB cE cL : ClassId} {cs : Nat → ClassId} {mo : Nat} {ma : Nat → Nat} {ou xr : Nat} {L : Nat} {xs : Nat → Int32} {k : Int} (hlf : l.stackTraces = false) (C0 : lw_At p s m meth c b L xs) (hL : L ≤ 256) (hk : 0 ≤ k ∧ 4 * k + 4 ≤ (L : Int)) (hK : va_K (dC, dI) kxCl (lT cI cB cE cL cs) s) (kk : LW p l e s m below meth c b dC dI cI cB cE cL cs mo ma ou xr k (k + 1) 689) : LW p l e s m below meth c b dC dI cI cB cE cL cs mo ma ou xr k k 509 := by
  obtain ⟨hx, hb, hr, hml, hown, hts0, hX, hbl, hlocks, hgv⟩ := id C0
  have hown : s.vm.findClass RL = some m.cls := hown
  have hA : ∀ q : Nat, s.heap.size ≤ q → (fun q : Nat => s.heap.size ≤ q) q := fun _ h => h
  have hbA : ¬ (fun q : Nat => s.heap.size ≤ q) b := Nat.not_le.mpr hbl
  have hG : kx_G s := ⟨s, _, hts0, hgv, State.WarmedH.refl s⟩
  have hZ : kx_Z (fun q : Nat => s.heap.size ≤ q) s s.heap := law_Z hts0 hgv
  have hts := kx_hts (a := #[Value.ref b]) hG
  intro o r n z F G N Eo Er En Ez EF fo I Fm H locs cells slots ls hxr hok hxG hPE hI hR hP hD hS hcl hsl hl
  subst hxr
  obtain ⟨⟨hR, hYl⟩, hOl⟩ := hR
  obtain ⟨⟨hR, hQ, hW, hV⟩, hPg, hCk⟩ := hR
  obtain ⟨hN1, hN2, hN3, hN4⟩ := id hxG
  have hz78 := hR.2.1
  have hk64 := hI.2.1.1
  have hk01 : 0 ≤ k ∧ k < 64 := by omega
  obtain ⟨a1, ea1, a1l, a1h⟩ := iz_of (xs (iz (4 * k + 1)).toNatClampNeg)
  obtain ⟨a2, ea2, a2l, a2h⟩ := iz_of (xs (iz (4 * k + 2)).toNatClampNeg)
  obtain ⟨a3, ea3, a3l, a3h⟩ := iz_of (xs (iz (4 * k + 3)).toNatClampNeg)
  refine lv_aload_n hx hb dL_law_509 rfl (lv_at hl 3 rfl) ?_
  refine lv_aload_n hx hb dL_law_510 rfl (lv_at hl 4 rfl) ?_
  refine lv_iload hx hb dL_law_511 (lv_at hl 0 rfl) ?_
  refine lv_iconst (v := iz 1) hx hb dL_law_513 (by decide) ?_
  refine ki_iadd hx hb dL_law_514 ?_
  refine va_sld hx hb hX hbl hbA hS (iz_in (by omega) (by omega) (by omega)) dL_law_515 ?_
  refine ki_is ea1 ?_
  refine lv_aload_n hx hb dL_law_516 rfl (lv_at hl 4 rfl) ?_
  refine lv_iload hx hb dL_law_517 (lv_at hl 0 rfl) ?_
  refine lv_iconst (v := iz 2) hx hb dL_law_519 (by decide) ?_
  refine ki_iadd hx hb dL_law_520 ?_
  refine va_sld hx hb hX hbl hbA hS (iz_in (by omega) (by omega) (by omega)) dL_law_521 ?_
  refine ki_is ea2 ?_
  refine lv_aload_n hx hb dL_law_522 rfl (lv_at hl 1 rfl) ?_
  have hPc : va_P (dC, dI) kxCl ((xU cI cB cE o r n z F G (Eo 0 0) ++ [(ou, .inl (cL, 1, .inr (.inl fo)))]) ++ eP cI N Eo Er En Ez EF) H := va_P.part (cx := xU cI cB cE o r n z F G (Eo 0 0) ++ [(ou, .inl (cL, 1, .inr (.inl fo)))]) hP [0, 1, 2, 3, 4, 5, 6, 7, 8, 9, 10, 11, 12, 13, 14, 15, 16, 17, 18, 19, 20, 21, 22, 23, 24, 25, 26, 27, 28, 58] rfl
  have hDc : va_D (fun q : Nat => s.heap.size ≤ q) ((xU cI cB cE o r n z F G (Eo 0 0) ++ [(ou, .inl (cL, 1, .inr (.inl fo)))]) ++ eP cI N Eo Er En Ez EF) := va_D.part (cx := xU cI cB cE o r n z F G (Eo 0 0) ++ [(ou, .inl (cL, 1, .inr (.inl fo)))]) hD [0, 1, 2, 3, 4, 5, 6, 7, 8, 9, 10, 11, 12, 13, 14, 15, 16, 17, 18, 19, 20, 21, 22, 23, 24, 25, 26, 27, 28, 58] lq_0 rfl
  have hFc := va_freeP (cx := xU cI cB cE o r n z F G (Eo 0 0) ++ [(ou, .inl (cL, 1, .inr (.inl fo)))]) hD hS hA [0, 1, 2, 3, 4, 5, 6, 7, 8, 9, 10, 11, 12, 13, 14, 15, 16, 17, 18, 19, 20, 21, 22, 23, 24, 25, 26, 27, 28, 58] rfl
  have hKc := hK.sub (tys' := [(cI, .int), (cB, .byte), (cE, .object RX0), (cL, .long)]) [0, 1, 2, 31] rfl
  refine xk_call (vx_runSW (As := [.ref (o 15), .int (iz a1), .int (iz a2), .ref ou]) (rest := []) ⟨hx, hb, hml, hown, hts⟩ (h_compare2 l hlf dC dI cI cB cE cL o r n z F G N Eo Er En Ez EF ou fo a1 a2 H.size hok hxG hPE (by omega) (by omega) (by omega) (by omega)) (vx_cwSW 4 hts (kx_gS kq_92_law_57 kq_92_law_58 kq_92_law_2 kq_25_xhelp_48 rfl) rfl rfl rfl (by decide +kernel) ⟨Nat.le_of_ble_eq_true rfl, Nat.le_of_ble_eq_true rfl⟩) ⟨kx_blind, kx_give (ws := []) (tys := []) hPc hDc hKc hG hZ hS hFc⟩ rfl rfl hl.1 rfl (lv_room (Nat.le_of_ble_eq_true rfl)) dL_law_523 ⟨show cells + 100 ≤ 600384 from (by omega), show slots + 42000 ≤ 7291369 from (by omega)⟩) hS (fun q _ h => hFc q h) hFc (fun u dn9 dm9 t H1 locs ht hvm hq hB hk1 hS => ?_)
  obtain ⟨q9, fo9, o9, r9, n9, z9, F9, G9, N9, Eo9, Er9, En9, Ez9, EF9⟩ := u
  obtain ⟨hP1, hK1, hD1⟩ := hB
  rw [ht] at hP1
  try dsimp only at hq
  obtain ⟨hP, hD⟩ := va_joinP (wr := mW mo ma cs I Fm) (rx := xU cI cB cE o9 r9 n9 z9 F9 G9 (Eo9 0 0) ++ [(ou, .inl (cL, 1, .inr (.inl fo9)))]) (pl1 := eP cI N9 Eo9 Er9 En9 Ez9 EF9) hP hD [0, 1, 2, 3, 4, 5, 6, 7, 8, 9, 10, 11, 12, 13, 14, 15, 16, 17, 18, 19, 20, 21, 22, 23, 24, 25, 26, 27, 28, 58] [29, 30, 31, 32, 33, 34, 35, 36, 37, 38, 39, 40, 41, 42, 43, 44, 45, 46, 47, 48, 49, 50, 51, 52, 53, 54, 55, 56, 57] rfl rfl lq_1 lq_2 hk1 hFc hP1 hD1
  generalize H1 = H at hP hS ⊢
  have hP : va_P (dC, dI) kxCl (((xU cI cB cE o9 r9 n9 z9 F9 G9 (Eo9 0 0) ++ mW mo ma cs I Fm) ++ [(ou, .inl (cL, 1, .inr (.inl fo9)))]) ++ eP cI N9 Eo9 Er9 En9 Ez9 EF9) H := va_P.part (cx := ((xU cI cB cE o9 r9 n9 z9 F9 G9 (Eo9 0 0) ++ mW mo ma cs I Fm) ++ [(ou, .inl (cL, 1, .inr (.inl fo9)))])) hP [29, 30, 31, 32, 33, 34, 35, 36, 37, 38, 39, 40, 41, 42, 43, 44, 45, 46, 47, 48, 49, 50, 51, 52, 53, 54, 55, 56, 57, 0, 1, 2, 3, 4, 5, 6, 7, 8, 9, 10, 11, 12, 13, 14, 15, 16, 17, 18, 19, 20, 21, 22, 23, 24, 25, 26, 27, 28, 58] rfl
  have hD : va_D (fun q : Nat => s.heap.size ≤ q) (((xU cI cB cE o9 r9 n9 z9 F9 G9 (Eo9 0 0) ++ mW mo ma cs I Fm) ++ [(ou, .inl (cL, 1, .inr (.inl fo9)))]) ++ eP cI N9 Eo9 Er9 En9 Ez9 EF9) := va_D.part (cx := ((xU cI cB cE o9 r9 n9 z9 F9 G9 (Eo9 0 0) ++ mW mo ma cs I Fm) ++ [(ou, .inl (cL, 1, .inr (.inl fo9)))])) hD [29, 30, 31, 32, 33, 34, 35, 36, 37, 38, 39, 40, 41, 42, 43, 44, 45, 46, 47, 48, 49, 50, 51, 52, 53, 54, 55, 56, 57, 0, 1, 2, 3, 4, 5, 6, 7, 8, 9, 10, 11, 12, 13, 14, 15, 16, 17, 18, 19, 20, 21, 22, 23, 24, 25, 26, 27, 28, 58] lq_3 rfl
  obtain ⟨hok9, hxG9, hPE9, hcost, ho9, hrel⟩ := hq
  have hrelF := fun (_ : Unit) => hrel
  clear hrel
  have hlc := lcC hcl (Nat.le_trans hcost.1 (by decide)) hk01
  have hls := lcS hsl (Nat.le_trans hcost.2 (by decide)) hk01
  refine W.eq (g2 := F0 m 526 ls [.int (iz q9)]) rfl ?_
  refine lv_istore (lv' := [(5, .int (iz q9)), (4, .int (iz (4 * k))), (3, .ref ou), (2, .ref mo), (1, .ref (o 15)), (0, .ref b)]) hx hb dL_law_526 hl (by decide) rfl (fun ls hl => ?_)
  refine lv_aload_n hx hb dL_law_528 rfl (lv_at hl 3 rfl) ?_
  refine lv_aload_n hx hb dL_law_529 rfl (lv_at hl 5 rfl) ?_
  refine lv_iload hx hb dL_law_530 (lv_at hl 1 rfl) ?_
  refine lv_iconst (v := iz 1) hx hb dL_law_532 (by decide) ?_
  refine ki_iadd hx hb dL_law_533 ?_
  refine va_sld hx hb hX hbl hbA hS (iz_in (by omega) (by omega) (by omega)) dL_law_534 ?_
  refine ki_is ea1 ?_
  refine lv_aload_n hx hb dL_law_535 rfl (lv_at hl 5 rfl) ?_
  refine lv_iload hx hb dL_law_536 (lv_at hl 1 rfl) ?_
  refine lv_iconst (v := iz 2) hx hb dL_law_538 (by decide) ?_
  refine ki_iadd hx hb dL_law_539 ?_
  refine va_sld hx hb hX hbl hbA hS (iz_in (by omega) (by omega) (by omega)) dL_law_540 ?_
  refine ki_is ea2 ?_
  have hPc := hP.sub (ws' := mW mo ma cs I Fm) [29, 30, 31, 32, 33, 34, 35, 36, 37, 38, 39, 40, 41, 42, 43, 44, 45, 46, 47, 48, 49, 50, 51, 52, 53, 54, 55, 56, 57] rfl
  have hDc := hD.sub (ws' := mW mo ma cs I Fm) [29, 30, 31, 32, 33, 34, 35, 36, 37, 38, 39, 40, 41, 42, 43, 44, 45, 46, 47, 48, 49, 50, 51, 52, 53, 54, 55, 56, 57] lq_1 rfl
  have hFc := va_free (wc := mW mo ma cs I Fm) hD hS hA [29, 30, 31, 32, 33, 34, 35, 36, 37, 38, 39, 40, 41, 42, 43, 44, 45, 46, 47, 48, 49, 50, 51, 52, 53, 54, 55, 56, 57] rfl
  have hKc := hK.sub (tys' := mT cs) [3, 4, 5, 6, 7, 8, 9, 10, 11, 12, 13, 14, 15, 16, 17, 18, 19, 20, 21, 22, 23, 24, 25, 26, 27, 28, 29, 30] rfl
  refine va_calli (va_runV (As := [.int (iz a1), .int (iz a2)]) (rest := []) ⟨hx, hb, hml, hown, hts⟩ (k_compare8 l dC dI mo ma cs I Fm a1 a2 H.size hI.1 (by omega) (by omega) (by omega) (by omega) (hW.kb hQ hI)) (cwV 2 hts (kx_gV kq_92_law_59 kq_92_law_60 kq_92_law_61 kq_04_msmall_6 kq_92_law_62 rfl) rfl rfl rfl (by decide +kernel) ⟨Nat.le_of_ble_eq_true rfl, Nat.le_of_ble_eq_true rfl⟩) ⟨kx_blind, va_recv hKc hPc (ci := 6) (q0 := 0) rfl rfl, kx_give (ws := []) (tys := []) hPc hDc hKc hG hZ hS hFc⟩ rfl rfl hl.1 rfl (lv_room (Nat.le_of_ble_eq_true rfl)) dL_law_541 ⟨show (cells + dn9) + 0 ≤ 600384 from (Nat.le_trans hlc.2 (by decide)), show (slots + dm9) + 0 ≤ 7291369 from (Nat.le_trans hls.2 (by decide))⟩) hS (fun q _ h => hFc q h) hFc (fun r u t H1 locs ht hvm hw hB hz1 hk1 hS => ?_)
  obtain ⟨rr1, J1, G1m⟩ := u
  obtain ⟨hP1, hK1, hD1⟩ := hB
  rw [ht] at hP1
  obtain ⟨e1, hw⟩ := hw
  subst e1
  try dsimp only at hw
  obtain ⟨hP, hD⟩ := va_joinQ (wr := xU cI cB cE o9 r9 n9 z9 F9 G9 (Eo9 0 0) ++ [(ou, .inl (cL, 1, .inr (.inl fo9)))]) (w1 := mW mo ma cs J1 G1m) hP hD [29, 30, 31, 32, 33, 34, 35, 36, 37, 38, 39, 40, 41, 42, 43, 44, 45, 46, 47, 48, 49, 50, 51, 52, 53, 54, 55, 56, 57] [0, 1, 2, 3, 4, 5, 6, 7, 8, 9, 10, 11, 12, 13, 14, 15, 16, 17, 18, 19, 20, 21, 22, 23, 24, 25, 26, 27, 28, 58] rfl rfl lq_0 lq_4 hk1 hFc hP1 hD1
  generalize H1 = H at hP hS ⊢
  have hP : va_P (dC, dI) kxCl (((xU cI cB cE o9 r9 n9 z9 F9 G9 (Eo9 0 0) ++ mW mo ma cs J1 G1m) ++ [(ou, .inl (cL, 1, .inr (.inl fo9)))]) ++ eP cI N9 Eo9 Er9 En9 Ez9 EF9) H := va_P.part (cx := ((xU cI cB cE o9 r9 n9 z9 F9 G9 (Eo9 0 0) ++ mW mo ma cs J1 G1m) ++ [(ou, .inl (cL, 1, .inr (.inl fo9)))])) hP [0, 1, 2, 3, 4, 5, 6, 7, 8, 9, 10, 11, 12, 13, 14, 15, 16, 17, 18, 19, 20, 21, 22, 23, 24, 25, 26, 27, 28, 30, 31, 32, 33, 34, 35, 36, 37, 38, 39, 40, 41, 42, 43, 44, 45, 46, 47, 48, 49, 50, 51, 52, 53, 54, 55, 56, 57, 58, 29] rfl
  have hD : va_D (fun q : Nat => s.heap.size ≤ q) (((xU cI cB cE o9 r9 n9 z9 F9 G9 (Eo9 0 0) ++ mW mo ma cs J1 G1m) ++ [(ou, .inl (cL, 1, .inr (.inl fo9)))]) ++ eP cI N9 Eo9 Er9 En9 Ez9 EF9) := va_D.part (cx := ((xU cI cB cE o9 r9 n9 z9 F9 G9 (Eo9 0 0) ++ mW mo ma cs J1 G1m) ++ [(ou, .inl (cL, 1, .inr (.inl fo9)))])) hD [0, 1, 2, 3, 4, 5, 6, 7, 8, 9, 10, 11, 12, 13, 14, 15, 16, 17, 18, 19, 20, 21, 22, 23, 24, 25, 26, 27, 28, 30, 31, 32, 33, 34, 35, 36, 37, 38, 39, 40, 41, 42, 43, 44, 45, 46, 47, 48, 49, 50, 51, 52, 53, 54, 55, 56, 57, 58, 29] lq_5 rfl
  obtain ⟨hR9, hI9, hQ9, hW9⟩ := sw_compare hI hR hQ hW (hrelF ()) hw.1
  have hV9 := ss_compare hV (hrelF ()) hw.1.1
  obtain ⟨hPg9, hCk9⟩ := sp_compare hI hR hW hPg hCk (hrelF ()) hw.1.1
  have hY9 := sy_compare hYl (hrelF ()) hw.1.1
  have hO9 := so_compare hOl (hrelF ()) hw.2
  refine W.eq (g2 := F0 m 544 ls [.int (iz rr1)]) rfl ?_
  refine lv_istore (lv' := [(6, .int (iz rr1)), (5, .int (iz q9)), (4, .int (iz (4 * k))), (3, .ref ou), (2, .ref mo), (1, .ref (o 15)), (0, .ref b)]) hx hb dL_law_544 hl (by decide) rfl (fun ls hl => ?_)
  refine lv_goto (tgt := 689) hx hb dL_law_546 (by decide) ?_
  exact kk o9 r9 n9 z9 F9 G9 N9 Eo9 Er9 En9 Ez9 EF9 fo9 J1 G1m H _ _ _ ls (ho9 15 (by decide) (by decide)) hok9 hxG9 hPE9 hI9 ⟨⟨⟨⟨hR9, hQ9, hW9, hV9⟩, hPg9, hCk9⟩, hY9⟩, hO9⟩ hP hD hS hlc.1 hls.1 (lv_sub hl [2, 3, 4, 5, 6] rfl)
set_option maxHeartbeats 4000000 in
set_option maxRecDepth 100000 in
theorem law_told {p : Program} {l : Launch} {e : Env} {s : State} {m : MethodId} {below : List Frame} {meth : Method} {c : Code} {b : Nat} {dC : Nat → ClassId} {dI : Nat → Nat → Nat} {cI cB cE cL : ClassId} {cs : Nat → ClassId} {mo : Nat} {ma : Nat → Nat} {ou xr : Nat} {L : Nat} {xs : Nat → Int32} {k : Int} (hlf : l.stackTraces = false) (C0 : lw_At p s m meth c b L xs) (hL : L ≤ 256) (hk : 0 ≤ k ∧ 4 * k + 4 ≤ (L : Int)) (hK : va_K (dC, dI) kxCl (lT cI cB cE cL cs) s) (kk : LW p l e s m below meth c b dC dI cI cB cE cL cs mo ma ou xr k (k + 1) 689) : LW p l e s m below meth c b dC dI cI cB cE cL cs mo ma ou xr k k 549 := by
  obtain ⟨hx, hb, hr, hml, hown, hts0, hX, hbl, hlocks, hgv⟩ := id C0
  have hown : s.vm.findClass RL = some m.cls := hown
  have hA : ∀ q : Nat, s.heap.size ≤ q → (fun q : Nat => s.heap.size ≤ q) q := fun _ h => h
  have hbA : ¬ (fun q : Nat => s.heap.size ≤ q) b := Nat.not_le.mpr hbl
  have hG : kx_G s := ⟨s, _, hts0, hgv, State.WarmedH.refl s⟩
  have hZ : kx_Z (fun q : Nat => s.heap.size ≤ q) s s.heap := law_Z hts0 hgv
  have hts := kx_hts (a := #[Value.ref b]) hG
  intro o r n z F G N Eo Er En Ez EF fo I Fm H locs cells slots ls hxr hok hxG hPE hI hR hP hD hS hcl hsl hl
  subst hxr
  obtain ⟨⟨hR, hYl⟩, hOl⟩ := hR
  obtain ⟨⟨hR, hQ, hW, hV⟩, hPg, hCk⟩ := hR
  obtain ⟨hN1, hN2, hN3, hN4⟩ := id hxG
  have hz78 := hR.2.1
  have hk64 := hI.2.1.1
  have hk01 : 0 ≤ k ∧ k < 64 := by omega
  obtain ⟨a1, ea1, a1l, a1h⟩ := iz_of (xs (iz (4 * k + 1)).toNatClampNeg)
  obtain ⟨a2, ea2, a2l, a2h⟩ := iz_of (xs (iz (4 * k + 2)).toNatClampNeg)
  obtain ⟨a3, ea3, a3l, a3h⟩ := iz_of (xs (iz (4 * k + 3)).toNatClampNeg)
  refine lv_aload_n hx hb dL_law_549 rfl (lv_at hl 3 rfl) ?_
  refine lv_aload_n hx hb dL_law_550 rfl (lv_at hl 4 rfl) ?_
  refine lv_iload hx hb dL_law_551 (lv_at hl 0 rfl) ?_
  refine lv_iconst (v := iz 1) hx hb dL_law_553 (by decide) ?_
  refine ki_iadd hx hb dL_law_554 ?_
  refine va_sld hx hb hX hbl hbA hS (iz_in (by omega) (by omega) (by omega)) dL_law_555 ?_
  refine ki_is ea1 ?_
  refine lv_aload_n hx hb dL_law_556 rfl (lv_at hl 4 rfl) ?_
  refine lv_iload hx hb dL_law_557 (lv_at hl 0 rfl) ?_
  refine lv_iconst (v := iz 2) hx hb dL_law_559 (by decide) ?_
  refine ki_iadd hx hb dL_law_560 ?_
  refine va_sld hx hb hX hbl hbA hS (iz_in (by omega) (by omega) (by omega)) dL_law_561 ?_
  refine ki_is ea2 ?_
  refine lv_aload_n hx hb dL_law_562 rfl (lv_at hl 1 rfl) ?_
  have hPc : va_P (dC, dI) kxCl ((xU cI cB cE o r n z F G (Eo 0 0) ++ [(ou, .inl (cL, 1, .inr (.inl fo)))]) ++ eP cI N Eo Er En Ez EF) H := va_P.part (cx := xU cI cB cE o r n z F G (Eo 0 0) ++ [(ou, .inl (cL, 1, .inr (.inl fo)))]) hP [0, 1, 2, 3, 4, 5, 6, 7, 8, 9, 10, 11, 12, 13, 14, 15, 16, 17, 18, 19, 20, 21, 22, 23, 24, 25, 26, 27, 28, 58] rfl
  have hDc : va_D (fun q : Nat => s.heap.size ≤ q) ((xU cI cB cE o r n z F G (Eo 0 0) ++ [(ou, .inl (cL, 1, .inr (.inl fo)))]) ++ eP cI N Eo Er En Ez EF) := va_D.part (cx := xU cI cB cE o r n z F G (Eo 0 0) ++ [(ou, .inl (cL, 1, .inr (.inl fo)))]) hD [0, 1, 2, 3, 4, 5, 6, 7, 8, 9, 10, 11, 12, 13, 14, 15, 16, 17, 18, 19, 20, 21, 22, 23, 24, 25, 26, 27, 28, 58] lq_0 rfl
  have hFc := va_freeP (cx := xU cI cB cE o r n z F G (Eo 0 0) ++ [(ou, .inl (cL, 1, .inr (.inl fo)))]) hD hS hA [0, 1, 2, 3, 4, 5, 6, 7, 8, 9, 10, 11, 12, 13, 14, 15, 16, 17, 18, 19, 20, 21, 22, 23, 24, 25, 26, 27, 28, 58] rfl
  have hKc := hK.sub (tys' := [(cI, .int), (cB, .byte), (cE, .object RX0), (cL, .long)]) [0, 1, 2, 31] rfl
  refine xk_call (vx_runSW (As := [.ref (o 15), .int (iz a1), .int (iz a2), .ref ou]) (rest := []) ⟨hx, hb, hml, hown, hts⟩ (h_told4 l hlf dC dI cI cB cE cL o r n z F G N Eo Er En Ez EF ou fo a1 a2 (Fm 2) (Fm 3) (rs_wd Fm) (kf_oc I Fm) (wr_pg Fm) (Fm 13) (Fm 11) (wr_se Fm) H.size hok hxG hPE (by omega) (by omega) (by omega) (by omega) (hW.H hR hQ hI) (by omega) hW.2.1 (hV.H hR hI)) (vx_cwSW 4 hts (kx_gS kq_92_law_63 kq_92_law_64 kq_92_law_2 kq_25_xhelp_53 rfl) rfl rfl rfl (by decide +kernel) ⟨Nat.le_of_ble_eq_true rfl, Nat.le_of_ble_eq_true rfl⟩) ⟨kx_blind, kx_give (ws := []) (tys := []) hPc hDc hKc hG hZ hS hFc⟩ rfl rfl hl.1 rfl (lv_room (Nat.le_of_ble_eq_true rfl)) dL_law_563 ⟨show cells + 1200 ≤ 600384 from (by omega), show slots + 600000 ≤ 7291369 from (by omega)⟩) hS (fun q _ h => hFc q h) hFc (fun u dn9 dm9 t H1 locs ht hvm hq hB hk1 hS => ?_)
  obtain ⟨q9, fo9, o9, r9, n9, z9, F9, G9, N9, Eo9, Er9, En9, Ez9, EF9⟩ := u
  obtain ⟨hP1, hK1, hD1⟩ := hB
  rw [ht] at hP1
  try dsimp only at hq
  obtain ⟨hP, hD⟩ := va_joinP (wr := mW mo ma cs I Fm) (rx := xU cI cB cE o9 r9 n9 z9 F9 G9 (Eo9 0 0) ++ [(ou, .inl (cL, 1, .inr (.inl fo9)))]) (pl1 := eP cI N9 Eo9 Er9 En9 Ez9 EF9) hP hD [0, 1, 2, 3, 4, 5, 6, 7, 8, 9, 10, 11, 12, 13, 14, 15, 16, 17, 18, 19, 20, 21, 22, 23, 24, 25, 26, 27, 28, 58] [29, 30, 31, 32, 33, 34, 35, 36, 37, 38, 39, 40, 41, 42, 43, 44, 45, 46, 47, 48, 49, 50, 51, 52, 53, 54, 55, 56, 57] rfl rfl lq_1 lq_2 hk1 hFc hP1 hD1
  generalize H1 = H at hP hS ⊢
  have hP : va_P (dC, dI) kxCl (((xU cI cB cE o9 r9 n9 z9 F9 G9 (Eo9 0 0) ++ mW mo ma cs I Fm) ++ [(ou, .inl (cL, 1, .inr (.inl fo9)))]) ++ eP cI N9 Eo9 Er9 En9 Ez9 EF9) H := va_P.part (cx := ((xU cI cB cE o9 r9 n9 z9 F9 G9 (Eo9 0 0) ++ mW mo ma cs I Fm) ++ [(ou, .inl (cL, 1, .inr (.inl fo9)))])) hP [29, 30, 31, 32, 33, 34, 35, 36, 37, 38, 39, 40, 41, 42, 43, 44, 45, 46, 47, 48, 49, 50, 51, 52, 53, 54, 55, 56, 57, 0, 1, 2, 3, 4, 5, 6, 7, 8, 9, 10, 11, 12, 13, 14, 15, 16, 17, 18, 19, 20, 21, 22, 23, 24, 25, 26, 27, 28, 58] rfl
  have hD : va_D (fun q : Nat => s.heap.size ≤ q) (((xU cI cB cE o9 r9 n9 z9 F9 G9 (Eo9 0 0) ++ mW mo ma cs I Fm) ++ [(ou, .inl (cL, 1, .inr (.inl fo9)))]) ++ eP cI N9 Eo9 Er9 En9 Ez9 EF9) := va_D.part (cx := ((xU cI cB cE o9 r9 n9 z9 F9 G9 (Eo9 0 0) ++ mW mo ma cs I Fm) ++ [(ou, .inl (cL, 1, .inr (.inl fo9)))])) hD [29, 30, 31, 32, 33, 34, 35, 36, 37, 38, 39, 40, 41, 42, 43, 44, 45, 46, 47, 48, 49, 50, 51, 52, 53, 54, 55, 56, 57, 0, 1, 2, 3, 4, 5, 6, 7, 8, 9, 10, 11, 12, 13, 14, 15, 16, 17, 18, 19, 20, 21, 22, 23, 24, 25, 26, 27, 28, 58] lq_3 rfl
  obtain ⟨hok9, hxG9, hPE9, hcost, ho9, hrel⟩ := hq
  have hrelF := fun (_ : Unit) => hrel
  clear hrel
  have hlc := lcC hcl (Nat.le_trans hcost.1 (by decide)) hk01
  have hls := lcS hsl (Nat.le_trans hcost.2 (by decide)) hk01
  refine W.eq (g2 := F0 m 566 ls [.int (iz q9)]) rfl ?_
  refine lv_istore (lv' := [(5, .int (iz q9)), (4, .int (iz (4 * k))), (3, .ref ou), (2, .ref mo), (1, .ref (o 15)), (0, .ref b)]) hx hb dL_law_566 hl (by decide) rfl (fun ls hl => ?_)
  refine lv_aload_n hx hb dL_law_568 rfl (lv_at hl 3 rfl) ?_
  refine lv_aload_n hx hb dL_law_569 rfl (lv_at hl 5 rfl) ?_
  refine lv_iload hx hb dL_law_570 (lv_at hl 1 rfl) ?_
  refine lv_iconst (v := iz 1) hx hb dL_law_572 (by decide) ?_
  refine ki_iadd hx hb dL_law_573 ?_
  refine va_sld hx hb hX hbl hbA hS (iz_in (by omega) (by omega) (by omega)) dL_law_574 ?_
  refine ki_is ea1 ?_
  refine lv_aload_n hx hb dL_law_575 rfl (lv_at hl 5 rfl) ?_
  refine lv_iload hx hb dL_law_576 (lv_at hl 1 rfl) ?_
  refine lv_iconst (v := iz 2) hx hb dL_law_578 (by decide) ?_
  refine ki_iadd hx hb dL_law_579 ?_
  refine va_sld hx hb hX hbl hbA hS (iz_in (by omega) (by omega) (by omega)) dL_law_580 ?_
  refine ki_is ea2 ?_
  have hPc := hP.sub (ws' := mW mo ma cs I Fm) [29, 30, 31, 32, 33, 34, 35, 36, 37, 38, 39, 40, 41, 42, 43, 44, 45, 46, 47, 48, 49, 50, 51, 52, 53, 54, 55, 56, 57] rfl
  have hDc := hD.sub (ws' := mW mo ma cs I Fm) [29, 30, 31, 32, 33, 34, 35, 36, 37, 38, 39, 40, 41, 42, 43, 44, 45, 46, 47, 48, 49, 50, 51, 52, 53, 54, 55, 56, 57] lq_1 rfl
  have hFc := va_free (wc := mW mo ma cs I Fm) hD hS hA [29, 30, 31, 32, 33, 34, 35, 36, 37, 38, 39, 40, 41, 42, 43, 44, 45, 46, 47, 48, 49, 50, 51, 52, 53, 54, 55, 56, 57] rfl
  have hKc := hK.sub (tys' := mT cs) [3, 4, 5, 6, 7, 8, 9, 10, 11, 12, 13, 14, 15, 16, 17, 18, 19, 20, 21, 22, 23, 24, 25, 26, 27, 28, 29, 30] rfl
  refine va_calli (va_runV (As := [.int (iz a1), .int (iz a2)]) (rest := []) ⟨hx, hb, hml, hown, hts⟩ (k_told8 l dC dI mo ma cs I Fm a1 a2 H.size hI.1 (by omega) (by omega) (by omega) (by omega) (hW.kb hQ hI)) (cwV 2 hts (kx_gV kq_92_law_65 kq_92_law_66 kq_92_law_67 kq_04_msmall_6 kq_92_law_68 rfl) rfl rfl rfl (by decide +kernel) ⟨Nat.le_of_ble_eq_true rfl, Nat.le_of_ble_eq_true rfl⟩) ⟨kx_blind, va_recv hKc hPc (ci := 6) (q0 := 0) rfl rfl, kx_give (ws := []) (tys := []) hPc hDc hKc hG hZ hS hFc⟩ rfl rfl hl.1 rfl (lv_room (Nat.le_of_ble_eq_true rfl)) dL_law_581 ⟨show (cells + dn9) + 0 ≤ 600384 from (Nat.le_trans hlc.2 (by decide)), show (slots + dm9) + 0 ≤ 7291369 from (Nat.le_trans hls.2 (by decide))⟩) hS (fun q _ h => hFc q h) hFc (fun r u t H1 locs ht hvm hw hB hz1 hk1 hS => ?_)
  obtain ⟨rr1, J1, G1m⟩ := u
  obtain ⟨hP1, hK1, hD1⟩ := hB
  rw [ht] at hP1
  obtain ⟨e1, hw⟩ := hw
  subst e1
  try dsimp only at hw
  obtain ⟨hP, hD⟩ := va_joinQ (wr := xU cI cB cE o9 r9 n9 z9 F9 G9 (Eo9 0 0) ++ [(ou, .inl (cL, 1, .inr (.inl fo9)))]) (w1 := mW mo ma cs J1 G1m) hP hD [29, 30, 31, 32, 33, 34, 35, 36, 37, 38, 39, 40, 41, 42, 43, 44, 45, 46, 47, 48, 49, 50, 51, 52, 53, 54, 55, 56, 57] [0, 1, 2, 3, 4, 5, 6, 7, 8, 9, 10, 11, 12, 13, 14, 15, 16, 17, 18, 19, 20, 21, 22, 23, 24, 25, 26, 27, 28, 58] rfl rfl lq_0 lq_4 hk1 hFc hP1 hD1
  generalize H1 = H at hP hS ⊢
  have hP : va_P (dC, dI) kxCl (((xU cI cB cE o9 r9 n9 z9 F9 G9 (Eo9 0 0) ++ mW mo ma cs J1 G1m) ++ [(ou, .inl (cL, 1, .inr (.inl fo9)))]) ++ eP cI N9 Eo9 Er9 En9 Ez9 EF9) H := va_P.part (cx := ((xU cI cB cE o9 r9 n9 z9 F9 G9 (Eo9 0 0) ++ mW mo ma cs J1 G1m) ++ [(ou, .inl (cL, 1, .inr (.inl fo9)))])) hP [0, 1, 2, 3, 4, 5, 6, 7, 8, 9, 10, 11, 12, 13, 14, 15, 16, 17, 18, 19, 20, 21, 22, 23, 24, 25, 26, 27, 28, 30, 31, 32, 33, 34, 35, 36, 37, 38, 39, 40, 41, 42, 43, 44, 45, 46, 47, 48, 49, 50, 51, 52, 53, 54, 55, 56, 57, 58, 29] rfl
  have hD : va_D (fun q : Nat => s.heap.size ≤ q) (((xU cI cB cE o9 r9 n9 z9 F9 G9 (Eo9 0 0) ++ mW mo ma cs J1 G1m) ++ [(ou, .inl (cL, 1, .inr (.inl fo9)))]) ++ eP cI N9 Eo9 Er9 En9 Ez9 EF9) := va_D.part (cx := ((xU cI cB cE o9 r9 n9 z9 F9 G9 (Eo9 0 0) ++ mW mo ma cs J1 G1m) ++ [(ou, .inl (cL, 1, .inr (.inl fo9)))])) hD [0, 1, 2, 3, 4, 5, 6, 7, 8, 9, 10, 11, 12, 13, 14, 15, 16, 17, 18, 19, 20, 21, 22, 23, 24, 25, 26, 27, 28, 30, 31, 32, 33, 34, 35, 36, 37, 38, 39, 40, 41, 42, 43, 44, 45, 46, 47, 48, 49, 50, 51, 52, 53, 54, 55, 56, 57, 58, 29] lq_5 rfl
  obtain ⟨hR9, hI9, hQ9, hW9⟩ := sw_told hI hR hQ hW (wk_told7 (hrelF ())) hw.1
  have hV9 := sv_told hV (hrelF ()) hw.1.1
  obtain ⟨hPg9, hCk9⟩ := sp_told hI hR hW hPg hCk (hrelF ()) hw.1.1
  have hY9 := sy_told hYl (hrelF ()) hw.1.1
  have hO9 := so_told hOl (hrelF ()) hw.2
  refine W.eq (g2 := F0 m 584 ls [.int (iz rr1)]) rfl ?_
  refine lv_istore (lv' := [(6, .int (iz rr1)), (5, .int (iz q9)), (4, .int (iz (4 * k))), (3, .ref ou), (2, .ref mo), (1, .ref (o 15)), (0, .ref b)]) hx hb dL_law_584 hl (by decide) rfl (fun ls hl => ?_)
  refine lv_goto (tgt := 689) hx hb dL_law_586 (by decide) ?_
  exact kk o9 r9 n9 z9 F9 G9 N9 Eo9 Er9 En9 Ez9 EF9 fo9 J1 G1m H _ _ _ ls (ho9 15 (by decide) (by decide)) hok9 hxG9 hPE9 hI9 ⟨⟨⟨⟨hR9, hQ9, hW9, hV9⟩, hPg9, hCk9⟩, hY9⟩, hO9⟩ hP hD hS hlc.1 hls.1 (lv_sub hl [2, 3, 4, 5, 6] rfl)
set_option maxHeartbeats 4000000 in
set_option maxRecDepth 100000 in
theorem law_style {p : Program} {l : Launch} {e : Env} {s : State} {m : MethodId} {below : List Frame} {meth : Method} {c : Code} {b : Nat} {dC : Nat → ClassId} {dI : Nat → Nat → Nat} {cI cB cE cL : ClassId} {cs : Nat → ClassId} {mo : Nat} {ma : Nat → Nat} {ou xr : Nat} {L : Nat} {xs : Nat → Int32} {k : Int} (hlf : l.stackTraces = false) (C0 : lw_At p s m meth c b L xs) (hL : L ≤ 256) (hk : 0 ≤ k ∧ 4 * k + 4 ≤ (L : Int)) (hK : va_K (dC, dI) kxCl (lT cI cB cE cL cs) s) (kk : LW p l e s m below meth c b dC dI cI cB cE cL cs mo ma ou xr k (k + 1) 689) : LW p l e s m below meth c b dC dI cI cB cE cL cs mo ma ou xr k k 589 := by
  obtain ⟨hx, hb, hr, hml, hown, hts0, hX, hbl, hlocks, hgv⟩ := id C0
  have hown : s.vm.findClass RL = some m.cls := hown
  have hA : ∀ q : Nat, s.heap.size ≤ q → (fun q : Nat => s.heap.size ≤ q) q := fun _ h => h
  have hbA : ¬ (fun q : Nat => s.heap.size ≤ q) b := Nat.not_le.mpr hbl
  have hG : kx_G s := ⟨s, _, hts0, hgv, State.WarmedH.refl s⟩
  have hZ : kx_Z (fun q : Nat => s.heap.size ≤ q) s s.heap := law_Z hts0 hgv
  have hts := kx_hts (a := #[Value.ref b]) hG
  intro o r n z F G N Eo Er En Ez EF fo I Fm H locs cells slots ls hxr hok hxG hPE hI hR hP hD hS hcl hsl hl
  subst hxr
  obtain ⟨⟨hR, hYl⟩, hOl⟩ := hR
  obtain ⟨⟨hR, hQ, hW, hV⟩, hPg, hCk⟩ := hR
  obtain ⟨hN1, hN2, hN3, hN4⟩ := id hxG
  have hz78 := hR.2.1
  have hk64 := hI.2.1.1
  have hk01 : 0 ≤ k ∧ k < 64 := by omega
  obtain ⟨a1, ea1, a1l, a1h⟩ := iz_of (xs (iz (4 * k + 1)).toNatClampNeg)
  obtain ⟨a2, ea2, a2l, a2h⟩ := iz_of (xs (iz (4 * k + 2)).toNatClampNeg)
  obtain ⟨a3, ea3, a3l, a3h⟩ := iz_of (xs (iz (4 * k + 3)).toNatClampNeg)
  refine lv_aload_n hx hb dL_law_589 rfl (lv_at hl 3 rfl) ?_
  refine lv_aload_n hx hb dL_law_590 rfl (lv_at hl 4 rfl) ?_
  refine lv_iload hx hb dL_law_591 (lv_at hl 0 rfl) ?_
  refine lv_iconst (v := iz 1) hx hb dL_law_593 (by decide) ?_
  refine ki_iadd hx hb dL_law_594 ?_
  refine va_sld hx hb hX hbl hbA hS (iz_in (by omega) (by omega) (by omega)) dL_law_595 ?_
  refine ki_is ea1 ?_
  refine lv_aload_n hx hb dL_law_596 rfl (lv_at hl 1 rfl) ?_
  have hPc : va_P (dC, dI) kxCl ((xU cI cB cE o r n z F G (Eo 0 0) ++ [(ou, .inl (cL, 1, .inr (.inl fo)))]) ++ eP cI N Eo Er En Ez EF) H := va_P.part (cx := xU cI cB cE o r n z F G (Eo 0 0) ++ [(ou, .inl (cL, 1, .inr (.inl fo)))]) hP [0, 1, 2, 3, 4, 5, 6, 7, 8, 9, 10, 11, 12, 13, 14, 15, 16, 17, 18, 19, 20, 21, 22, 23, 24, 25, 26, 27, 28, 58] rfl
  have hDc : va_D (fun q : Nat => s.heap.size ≤ q) ((xU cI cB cE o r n z F G (Eo 0 0) ++ [(ou, .inl (cL, 1, .inr (.inl fo)))]) ++ eP cI N Eo Er En Ez EF) := va_D.part (cx := xU cI cB cE o r n z F G (Eo 0 0) ++ [(ou, .inl (cL, 1, .inr (.inl fo)))]) hD [0, 1, 2, 3, 4, 5, 6, 7, 8, 9, 10, 11, 12, 13, 14, 15, 16, 17, 18, 19, 20, 21, 22, 23, 24, 25, 26, 27, 28, 58] lq_0 rfl
  have hFc := va_freeP (cx := xU cI cB cE o r n z F G (Eo 0 0) ++ [(ou, .inl (cL, 1, .inr (.inl fo)))]) hD hS hA [0, 1, 2, 3, 4, 5, 6, 7, 8, 9, 10, 11, 12, 13, 14, 15, 16, 17, 18, 19, 20, 21, 22, 23, 24, 25, 26, 27, 28, 58] rfl
  have hKc := hK.sub (tys' := [(cI, .int), (cB, .byte), (cE, .object RX0), (cL, .long)]) [0, 1, 2, 31] rfl
  refine xk_call (vx_runSW (As := [.ref (o 15), .int (iz a1), .ref ou]) (rest := []) ⟨hx, hb, hml, hown, hts⟩ (h_style7 l hlf dC dI cI cB cE cL o r n z F G N Eo Er En Ez EF ou fo a1 H.size hok hxG hPE (by omega) (by omega)) (vx_cwSW 3 hts (kx_gS kq_92_law_69 kq_92_law_70 kq_92_law_2 kq_25_xhelp_58 rfl) rfl rfl rfl (by decide +kernel) ⟨Nat.le_of_ble_eq_true rfl, Nat.le_of_ble_eq_true rfl⟩) ⟨kx_blind, kx_give (ws := []) (tys := []) hPc hDc hKc hG hZ hS hFc⟩ rfl rfl hl.1 rfl (lv_room (Nat.le_of_ble_eq_true rfl)) dL_law_597 ⟨show cells + 100 ≤ 600384 from (by omega), show slots + 45000 ≤ 7291369 from (by omega)⟩) hS (fun q _ h => hFc q h) hFc (fun u dn9 dm9 t H1 locs ht hvm hq hB hk1 hS => ?_)
  obtain ⟨q9, fo9, o9, r9, n9, z9, F9, G9, N9, Eo9, Er9, En9, Ez9, EF9⟩ := u
  obtain ⟨hP1, hK1, hD1⟩ := hB
  rw [ht] at hP1
  try dsimp only at hq
  obtain ⟨hP, hD⟩ := va_joinP (wr := mW mo ma cs I Fm) (rx := xU cI cB cE o9 r9 n9 z9 F9 G9 (Eo9 0 0) ++ [(ou, .inl (cL, 1, .inr (.inl fo9)))]) (pl1 := eP cI N9 Eo9 Er9 En9 Ez9 EF9) hP hD [0, 1, 2, 3, 4, 5, 6, 7, 8, 9, 10, 11, 12, 13, 14, 15, 16, 17, 18, 19, 20, 21, 22, 23, 24, 25, 26, 27, 28, 58] [29, 30, 31, 32, 33, 34, 35, 36, 37, 38, 39, 40, 41, 42, 43, 44, 45, 46, 47, 48, 49, 50, 51, 52, 53, 54, 55, 56, 57] rfl rfl lq_1 lq_2 hk1 hFc hP1 hD1
  generalize H1 = H at hP hS ⊢
  have hP : va_P (dC, dI) kxCl (((xU cI cB cE o9 r9 n9 z9 F9 G9 (Eo9 0 0) ++ mW mo ma cs I Fm) ++ [(ou, .inl (cL, 1, .inr (.inl fo9)))]) ++ eP cI N9 Eo9 Er9 En9 Ez9 EF9) H := va_P.part (cx := ((xU cI cB cE o9 r9 n9 z9 F9 G9 (Eo9 0 0) ++ mW mo ma cs I Fm) ++ [(ou, .inl (cL, 1, .inr (.inl fo9)))])) hP [29, 30, 31, 32, 33, 34, 35, 36, 37, 38, 39, 40, 41, 42, 43, 44, 45, 46, 47, 48, 49, 50, 51, 52, 53, 54, 55, 56, 57, 0, 1, 2, 3, 4, 5, 6, 7, 8, 9, 10, 11, 12, 13, 14, 15, 16, 17, 18, 19, 20, 21, 22, 23, 24, 25, 26, 27, 28, 58] rfl
  have hD : va_D (fun q : Nat => s.heap.size ≤ q) (((xU cI cB cE o9 r9 n9 z9 F9 G9 (Eo9 0 0) ++ mW mo ma cs I Fm) ++ [(ou, .inl (cL, 1, .inr (.inl fo9)))]) ++ eP cI N9 Eo9 Er9 En9 Ez9 EF9) := va_D.part (cx := ((xU cI cB cE o9 r9 n9 z9 F9 G9 (Eo9 0 0) ++ mW mo ma cs I Fm) ++ [(ou, .inl (cL, 1, .inr (.inl fo9)))])) hD [29, 30, 31, 32, 33, 34, 35, 36, 37, 38, 39, 40, 41, 42, 43, 44, 45, 46, 47, 48, 49, 50, 51, 52, 53, 54, 55, 56, 57, 0, 1, 2, 3, 4, 5, 6, 7, 8, 9, 10, 11, 12, 13, 14, 15, 16, 17, 18, 19, 20, 21, 22, 23, 24, 25, 26, 27, 28, 58] lq_3 rfl
  obtain ⟨hok9, hxG9, hPE9, hcost, ho9, hrel⟩ := hq
  have hrelF := fun (_ : Unit) => hrel
  clear hrel
  have hlc := lcC hcl (Nat.le_trans hcost.1 (by decide)) hk01
  have hls := lcS hsl (Nat.le_trans hcost.2 (by decide)) hk01
  refine W.eq (g2 := F0 m 600 ls [.int (iz q9)]) rfl ?_
  refine lv_istore (lv' := [(5, .int (iz q9)), (4, .int (iz (4 * k))), (3, .ref ou), (2, .ref mo), (1, .ref (o 15)), (0, .ref b)]) hx hb dL_law_600 hl (by decide) rfl (fun ls hl => ?_)
  refine lv_aload_n hx hb dL_law_602 rfl (lv_at hl 3 rfl) ?_
  refine lv_aload_n hx hb dL_law_603 rfl (lv_at hl 5 rfl) ?_
  refine lv_iload hx hb dL_law_604 (lv_at hl 1 rfl) ?_
  refine lv_iconst (v := iz 1) hx hb dL_law_606 (by decide) ?_
  refine ki_iadd hx hb dL_law_607 ?_
  refine va_sld hx hb hX hbl hbA hS (iz_in (by omega) (by omega) (by omega)) dL_law_608 ?_
  refine ki_is ea1 ?_
  have hPc := hP.sub (ws' := mW mo ma cs I Fm) [29, 30, 31, 32, 33, 34, 35, 36, 37, 38, 39, 40, 41, 42, 43, 44, 45, 46, 47, 48, 49, 50, 51, 52, 53, 54, 55, 56, 57] rfl
  have hDc := hD.sub (ws' := mW mo ma cs I Fm) [29, 30, 31, 32, 33, 34, 35, 36, 37, 38, 39, 40, 41, 42, 43, 44, 45, 46, 47, 48, 49, 50, 51, 52, 53, 54, 55, 56, 57] lq_1 rfl
  have hFc := va_free (wc := mW mo ma cs I Fm) hD hS hA [29, 30, 31, 32, 33, 34, 35, 36, 37, 38, 39, 40, 41, 42, 43, 44, 45, 46, 47, 48, 49, 50, 51, 52, 53, 54, 55, 56, 57] rfl
  have hKc := hK.sub (tys' := mT cs) [3, 4, 5, 6, 7, 8, 9, 10, 11, 12, 13, 14, 15, 16, 17, 18, 19, 20, 21, 22, 23, 24, 25, 26, 27, 28, 29, 30] rfl
  refine va_calli (va_runV (As := [.int (iz a1)]) (rest := []) ⟨hx, hb, hml, hown, hts⟩ (k_style l dC dI mo ma cs I Fm a1 H.size hI.1.hB hI.1.hst (by omega) (by omega)) (cwV 1 hts (kx_gV kq_92_law_71 kq_92_law_72 kq_92_law_73 kq_04_msmall_6 kq_92_law_74 rfl) rfl rfl rfl (by decide +kernel) ⟨Nat.le_of_ble_eq_true rfl, Nat.le_of_ble_eq_true rfl⟩) ⟨kx_blind, va_recv hKc hPc (ci := 6) (q0 := 0) rfl rfl, kx_give (ws := []) (tys := []) hPc hDc hKc hG hZ hS hFc⟩ rfl rfl hl.1 rfl (lv_room (Nat.le_of_ble_eq_true rfl)) dL_law_609 ⟨show (cells + dn9) + 0 ≤ 600384 from (Nat.le_trans hlc.2 (by decide)), show (slots + dm9) + 0 ≤ 7291369 from (Nat.le_trans hls.2 (by decide))⟩) hS (fun q _ h => hFc q h) hFc (fun r u t H1 locs ht hvm hw hB hz1 hk1 hS => ?_)
  obtain ⟨rr1, J1, G1m⟩ := u
  obtain ⟨hP1, hK1, hD1⟩ := hB
  rw [ht] at hP1
  obtain ⟨e1, hw⟩ := hw
  subst e1
  try dsimp only at hw
  obtain ⟨hP, hD⟩ := va_joinQ (wr := xU cI cB cE o9 r9 n9 z9 F9 G9 (Eo9 0 0) ++ [(ou, .inl (cL, 1, .inr (.inl fo9)))]) (w1 := mW mo ma cs J1 G1m) hP hD [29, 30, 31, 32, 33, 34, 35, 36, 37, 38, 39, 40, 41, 42, 43, 44, 45, 46, 47, 48, 49, 50, 51, 52, 53, 54, 55, 56, 57] [0, 1, 2, 3, 4, 5, 6, 7, 8, 9, 10, 11, 12, 13, 14, 15, 16, 17, 18, 19, 20, 21, 22, 23, 24, 25, 26, 27, 28, 58] rfl rfl lq_0 lq_4 hk1 hFc hP1 hD1
  generalize H1 = H at hP hS ⊢
  have hP : va_P (dC, dI) kxCl (((xU cI cB cE o9 r9 n9 z9 F9 G9 (Eo9 0 0) ++ mW mo ma cs J1 G1m) ++ [(ou, .inl (cL, 1, .inr (.inl fo9)))]) ++ eP cI N9 Eo9 Er9 En9 Ez9 EF9) H := va_P.part (cx := ((xU cI cB cE o9 r9 n9 z9 F9 G9 (Eo9 0 0) ++ mW mo ma cs J1 G1m) ++ [(ou, .inl (cL, 1, .inr (.inl fo9)))])) hP [0, 1, 2, 3, 4, 5, 6, 7, 8, 9, 10, 11, 12, 13, 14, 15, 16, 17, 18, 19, 20, 21, 22, 23, 24, 25, 26, 27, 28, 30, 31, 32, 33, 34, 35, 36, 37, 38, 39, 40, 41, 42, 43, 44, 45, 46, 47, 48, 49, 50, 51, 52, 53, 54, 55, 56, 57, 58, 29] rfl
  have hD : va_D (fun q : Nat => s.heap.size ≤ q) (((xU cI cB cE o9 r9 n9 z9 F9 G9 (Eo9 0 0) ++ mW mo ma cs J1 G1m) ++ [(ou, .inl (cL, 1, .inr (.inl fo9)))]) ++ eP cI N9 Eo9 Er9 En9 Ez9 EF9) := va_D.part (cx := ((xU cI cB cE o9 r9 n9 z9 F9 G9 (Eo9 0 0) ++ mW mo ma cs J1 G1m) ++ [(ou, .inl (cL, 1, .inr (.inl fo9)))])) hD [0, 1, 2, 3, 4, 5, 6, 7, 8, 9, 10, 11, 12, 13, 14, 15, 16, 17, 18, 19, 20, 21, 22, 23, 24, 25, 26, 27, 28, 30, 31, 32, 33, 34, 35, 36, 37, 38, 39, 40, 41, 42, 43, 44, 45, 46, 47, 48, 49, 50, 51, 52, 53, 54, 55, 56, 57, 58, 29] lq_5 rfl
  obtain ⟨hcode, hans, hR9, hI9, hQ9, hW9⟩ := sw_style hI hk01.2 hR hQ hW (wk_style7 (hrelF ())) hw
  have hV9 := ss_style hV (wk_style7 (hrelF ())) hw
  obtain ⟨hPg9, hCk9⟩ := sp_style hI hR hW hPg hCk (wk_style7 (hrelF ())) hw
  have hY9 := sy_style hR hYl (hrelF ()) hw hcode
  have hO9 := so_style hOl (hrelF ()) hw
  refine W.eq (g2 := F0 m 612 ls [.int (iz rr1)]) rfl ?_
  have hbq := hI9.1.hB.1 0
  refine lv_istore (lv' := [(6, .int (iz rr1)), (5, .int (iz q9)), (4, .int (iz (4 * k))), (3, .ref ou), (2, .ref mo), (1, .ref (o 15)), (0, .ref b)]) hx hb dL_law_612 hl (by decide) rfl (fun ls hl => ?_)
  refine lv_goto (tgt := 689) hx hb dL_law_614 (by decide) ?_
  exact kk o9 r9 n9 z9 F9 G9 N9 Eo9 Er9 En9 Ez9 EF9 fo9 J1 G1m H _ _ _ ls (ho9 15 (by decide) (by decide)) hok9 hxG9 hPE9 hI9 ⟨⟨⟨⟨hR9, hQ9, hW9, hV9⟩, hPg9, hCk9⟩, hY9⟩, hO9⟩ hP hD hS hlc.1 hls.1 (lv_sub hl [2, 3, 4, 5, 6] rfl)
set_option maxHeartbeats 4000000 in
set_option maxRecDepth 100000 in
theorem law_print {p : Program} {l : Launch} {e : Env} {s : State} {m : MethodId} {below : List Frame} {meth : Method} {c : Code} {b : Nat} {dC : Nat → ClassId} {dI : Nat → Nat → Nat} {cI cB cE cL : ClassId} {cs : Nat → ClassId} {mo : Nat} {ma : Nat → Nat} {ou xr : Nat} {L : Nat} {xs : Nat → Int32} {k : Int} (hlf : l.stackTraces = false) (C0 : lw_At p s m meth c b L xs) (hL : L ≤ 256) (hk : 0 ≤ k ∧ 4 * k + 4 ≤ (L : Int)) (hK : va_K (dC, dI) kxCl (lT cI cB cE cL cs) s) (kk : LW p l e s m below meth c b dC dI cI cB cE cL cs mo ma ou xr k (k + 1) 689) : LW p l e s m below meth c b dC dI cI cB cE cL cs mo ma ou xr k k 617 := by
  obtain ⟨hx, hb, hr, hml, hown, hts0, hX, hbl, hlocks, hgv⟩ := id C0
  have hown : s.vm.findClass RL = some m.cls := hown
  have hA : ∀ q : Nat, s.heap.size ≤ q → (fun q : Nat => s.heap.size ≤ q) q := fun _ h => h
  have hbA : ¬ (fun q : Nat => s.heap.size ≤ q) b := Nat.not_le.mpr hbl
  have hG : kx_G s := ⟨s, _, hts0, hgv, State.WarmedH.refl s⟩
  have hZ : kx_Z (fun q : Nat => s.heap.size ≤ q) s s.heap := law_Z hts0 hgv
  have hts := kx_hts (a := #[Value.ref b]) hG
  intro o r n z F G N Eo Er En Ez EF fo I Fm H locs cells slots ls hxr hok hxG hPE hI hR hP hD hS hcl hsl hl
  subst hxr
  obtain ⟨⟨hR, hYl⟩, hOl⟩ := hR
  obtain ⟨⟨hR, hQ, hW, hV⟩, hPg, hCk⟩ := hR
  obtain ⟨hN1, hN2, hN3, hN4⟩ := id hxG
  have hz78 := hR.2.1
  have hk64 := hI.2.1.1
  have hk01 : 0 ≤ k ∧ k < 64 := by omega
  obtain ⟨a1, ea1, a1l, a1h⟩ := iz_of (xs (iz (4 * k + 1)).toNatClampNeg)
  obtain ⟨a2, ea2, a2l, a2h⟩ := iz_of (xs (iz (4 * k + 2)).toNatClampNeg)
  obtain ⟨a3, ea3, a3l, a3h⟩ := iz_of (xs (iz (4 * k + 3)).toNatClampNeg)
  refine lv_aload_n hx hb dL_law_617 rfl (lv_at hl 3 rfl) ?_
  refine lv_aload_n hx hb dL_law_618 rfl (lv_at hl 1 rfl) ?_
  have hPc : va_P (dC, dI) kxCl ((xU cI cB cE o r n z F G (Eo 0 0) ++ [(ou, .inl (cL, 1, .inr (.inl fo)))]) ++ eP cI N Eo Er En Ez EF) H := va_P.part (cx := xU cI cB cE o r n z F G (Eo 0 0) ++ [(ou, .inl (cL, 1, .inr (.inl fo)))]) hP [0, 1, 2, 3, 4, 5, 6, 7, 8, 9, 10, 11, 12, 13, 14, 15, 16, 17, 18, 19, 20, 21, 22, 23, 24, 25, 26, 27, 28, 58] rfl
  have hDc : va_D (fun q : Nat => s.heap.size ≤ q) ((xU cI cB cE o r n z F G (Eo 0 0) ++ [(ou, .inl (cL, 1, .inr (.inl fo)))]) ++ eP cI N Eo Er En Ez EF) := va_D.part (cx := xU cI cB cE o r n z F G (Eo 0 0) ++ [(ou, .inl (cL, 1, .inr (.inl fo)))]) hD [0, 1, 2, 3, 4, 5, 6, 7, 8, 9, 10, 11, 12, 13, 14, 15, 16, 17, 18, 19, 20, 21, 22, 23, 24, 25, 26, 27, 28, 58] lq_0 rfl
  have hFc := va_freeP (cx := xU cI cB cE o r n z F G (Eo 0 0) ++ [(ou, .inl (cL, 1, .inr (.inl fo)))]) hD hS hA [0, 1, 2, 3, 4, 5, 6, 7, 8, 9, 10, 11, 12, 13, 14, 15, 16, 17, 18, 19, 20, 21, 22, 23, 24, 25, 26, 27, 28, 58] rfl
  have hKc := hK.sub (tys' := [(cI, .int), (cB, .byte), (cE, .object RX0), (cL, .long)]) [0, 1, 2, 31] rfl
  refine xk_call (vx_runSW (As := [.ref (o 15), .ref ou]) (rest := []) ⟨hx, hb, hml, hown, hts⟩ (h_print7 l hlf dC dI cI cB cE cL o r n z F G N Eo Er En Ez EF ou fo  (Fm 2) (Fm 3) (rs_wd Fm) (kf_oc I Fm) H.size hok hxG hPE (hW.H hR hQ hI) (by omega) hW.2.1 (hPg.H hR.2.1) hCk (hV.sn7 hI hR.2.1)) (vx_cwSW 2 hts (kx_gS kq_92_law_75 kq_92_law_76 kq_92_law_2 kq_25_xhelp_63 rfl) rfl rfl rfl (by decide +kernel) ⟨Nat.le_of_ble_eq_true rfl, Nat.le_of_ble_eq_true rfl⟩) ⟨kx_blind, kx_give (ws := []) (tys := []) hPc hDc hKc hG hZ hS hFc⟩ rfl rfl hl.1 rfl (lv_room (Nat.le_of_ble_eq_true rfl)) dL_law_619 ⟨show cells + 1200 ≤ 600384 from (by omega), show slots + 600000 ≤ 7291369 from (by omega)⟩) hS (fun q _ h => hFc q h) hFc (fun u dn9 dm9 t H1 locs ht hvm hq hB hk1 hS => ?_)
  obtain ⟨q9, fo9, o9, r9, n9, z9, F9, G9, N9, Eo9, Er9, En9, Ez9, EF9⟩ := u
  obtain ⟨hP1, hK1, hD1⟩ := hB
  rw [ht] at hP1
  try dsimp only at hq
  obtain ⟨hP, hD⟩ := va_joinP (wr := mW mo ma cs I Fm) (rx := xU cI cB cE o9 r9 n9 z9 F9 G9 (Eo9 0 0) ++ [(ou, .inl (cL, 1, .inr (.inl fo9)))]) (pl1 := eP cI N9 Eo9 Er9 En9 Ez9 EF9) hP hD [0, 1, 2, 3, 4, 5, 6, 7, 8, 9, 10, 11, 12, 13, 14, 15, 16, 17, 18, 19, 20, 21, 22, 23, 24, 25, 26, 27, 28, 58] [29, 30, 31, 32, 33, 34, 35, 36, 37, 38, 39, 40, 41, 42, 43, 44, 45, 46, 47, 48, 49, 50, 51, 52, 53, 54, 55, 56, 57] rfl rfl lq_1 lq_2 hk1 hFc hP1 hD1
  generalize H1 = H at hP hS ⊢
  have hP : va_P (dC, dI) kxCl (((xU cI cB cE o9 r9 n9 z9 F9 G9 (Eo9 0 0) ++ mW mo ma cs I Fm) ++ [(ou, .inl (cL, 1, .inr (.inl fo9)))]) ++ eP cI N9 Eo9 Er9 En9 Ez9 EF9) H := va_P.part (cx := ((xU cI cB cE o9 r9 n9 z9 F9 G9 (Eo9 0 0) ++ mW mo ma cs I Fm) ++ [(ou, .inl (cL, 1, .inr (.inl fo9)))])) hP [29, 30, 31, 32, 33, 34, 35, 36, 37, 38, 39, 40, 41, 42, 43, 44, 45, 46, 47, 48, 49, 50, 51, 52, 53, 54, 55, 56, 57, 0, 1, 2, 3, 4, 5, 6, 7, 8, 9, 10, 11, 12, 13, 14, 15, 16, 17, 18, 19, 20, 21, 22, 23, 24, 25, 26, 27, 28, 58] rfl
  have hD : va_D (fun q : Nat => s.heap.size ≤ q) (((xU cI cB cE o9 r9 n9 z9 F9 G9 (Eo9 0 0) ++ mW mo ma cs I Fm) ++ [(ou, .inl (cL, 1, .inr (.inl fo9)))]) ++ eP cI N9 Eo9 Er9 En9 Ez9 EF9) := va_D.part (cx := ((xU cI cB cE o9 r9 n9 z9 F9 G9 (Eo9 0 0) ++ mW mo ma cs I Fm) ++ [(ou, .inl (cL, 1, .inr (.inl fo9)))])) hD [29, 30, 31, 32, 33, 34, 35, 36, 37, 38, 39, 40, 41, 42, 43, 44, 45, 46, 47, 48, 49, 50, 51, 52, 53, 54, 55, 56, 57, 0, 1, 2, 3, 4, 5, 6, 7, 8, 9, 10, 11, 12, 13, 14, 15, 16, 17, 18, 19, 20, 21, 22, 23, 24, 25, 26, 27, 28, 58] lq_3 rfl
  obtain ⟨hok9, hxG9, hPE9, hcost, ho9, hrel⟩ := hq
  have hrelF := fun (_ : Unit) => hrel
  clear hrel
  have hlc := lcC hcl (Nat.le_trans hcost.1 (by decide)) hk01
  have hls := lcS hsl (Nat.le_trans hcost.2 (by decide)) hk01
  refine W.eq (g2 := F0 m 622 ls [.int (iz q9)]) rfl ?_
  refine lv_istore (lv' := [(5, .int (iz q9)), (4, .int (iz (4 * k))), (3, .ref ou), (2, .ref mo), (1, .ref (o 15)), (0, .ref b)]) hx hb dL_law_622 hl (by decide) rfl (fun ls hl => ?_)
  refine lv_aload_n hx hb dL_law_624 rfl (lv_at hl 3 rfl) ?_
  have hPc := hP.sub (ws' := mW mo ma cs I Fm) [29, 30, 31, 32, 33, 34, 35, 36, 37, 38, 39, 40, 41, 42, 43, 44, 45, 46, 47, 48, 49, 50, 51, 52, 53, 54, 55, 56, 57] rfl
  have hDc := hD.sub (ws' := mW mo ma cs I Fm) [29, 30, 31, 32, 33, 34, 35, 36, 37, 38, 39, 40, 41, 42, 43, 44, 45, 46, 47, 48, 49, 50, 51, 52, 53, 54, 55, 56, 57] lq_1 rfl
  have hFc := va_free (wc := mW mo ma cs I Fm) hD hS hA [29, 30, 31, 32, 33, 34, 35, 36, 37, 38, 39, 40, 41, 42, 43, 44, 45, 46, 47, 48, 49, 50, 51, 52, 53, 54, 55, 56, 57] rfl
  have hKc := hK.sub (tys' := mT cs) [3, 4, 5, 6, 7, 8, 9, 10, 11, 12, 13, 14, 15, 16, 17, 18, 19, 20, 21, 22, 23, 24, 25, 26, 27, 28, 29, 30] rfl
  refine va_calli (va_runV (As := []) (rest := []) ⟨hx, hb, hml, hown, hts⟩ (k_print3 l dC dI mo ma cs I Fm  H.size hI.1 (hW.kb hQ hI) hPg.v) (cwV 0 hts (kx_gV kq_92_law_77 kq_92_law_78 kq_92_law_79 kq_04_msmall_6 kq_92_law_80 rfl) rfl rfl rfl (by decide +kernel) ⟨Nat.le_of_ble_eq_true rfl, Nat.le_of_ble_eq_true rfl⟩) ⟨kx_blind, va_recv hKc hPc (ci := 6) (q0 := 0) rfl rfl, kx_give (ws := []) (tys := []) hPc hDc hKc hG hZ hS hFc⟩ rfl rfl hl.1 rfl (lv_room (Nat.le_of_ble_eq_true rfl)) dL_law_625 ⟨show (cells + dn9) + 0 ≤ 600384 from (Nat.le_trans hlc.2 (by decide)), show (slots + dm9) + 0 ≤ 7291369 from (Nat.le_trans hls.2 (by decide))⟩) hS (fun q _ h => hFc q h) hFc (fun r u t H1 locs ht hvm hw hB hz1 hk1 hS => ?_)
  obtain ⟨rr1, J1, G1m⟩ := u
  obtain ⟨hP1, hK1, hD1⟩ := hB
  rw [ht] at hP1
  obtain ⟨e1, hw⟩ := hw
  subst e1
  try dsimp only at hw
  obtain ⟨hP, hD⟩ := va_joinQ (wr := xU cI cB cE o9 r9 n9 z9 F9 G9 (Eo9 0 0) ++ [(ou, .inl (cL, 1, .inr (.inl fo9)))]) (w1 := mW mo ma cs J1 G1m) hP hD [29, 30, 31, 32, 33, 34, 35, 36, 37, 38, 39, 40, 41, 42, 43, 44, 45, 46, 47, 48, 49, 50, 51, 52, 53, 54, 55, 56, 57] [0, 1, 2, 3, 4, 5, 6, 7, 8, 9, 10, 11, 12, 13, 14, 15, 16, 17, 18, 19, 20, 21, 22, 23, 24, 25, 26, 27, 28, 58] rfl rfl lq_0 lq_4 hk1 hFc hP1 hD1
  generalize H1 = H at hP hS ⊢
  have hP : va_P (dC, dI) kxCl (((xU cI cB cE o9 r9 n9 z9 F9 G9 (Eo9 0 0) ++ mW mo ma cs J1 G1m) ++ [(ou, .inl (cL, 1, .inr (.inl fo9)))]) ++ eP cI N9 Eo9 Er9 En9 Ez9 EF9) H := va_P.part (cx := ((xU cI cB cE o9 r9 n9 z9 F9 G9 (Eo9 0 0) ++ mW mo ma cs J1 G1m) ++ [(ou, .inl (cL, 1, .inr (.inl fo9)))])) hP [0, 1, 2, 3, 4, 5, 6, 7, 8, 9, 10, 11, 12, 13, 14, 15, 16, 17, 18, 19, 20, 21, 22, 23, 24, 25, 26, 27, 28, 30, 31, 32, 33, 34, 35, 36, 37, 38, 39, 40, 41, 42, 43, 44, 45, 46, 47, 48, 49, 50, 51, 52, 53, 54, 55, 56, 57, 58, 29] rfl
  have hD : va_D (fun q : Nat => s.heap.size ≤ q) (((xU cI cB cE o9 r9 n9 z9 F9 G9 (Eo9 0 0) ++ mW mo ma cs J1 G1m) ++ [(ou, .inl (cL, 1, .inr (.inl fo9)))]) ++ eP cI N9 Eo9 Er9 En9 Ez9 EF9) := va_D.part (cx := ((xU cI cB cE o9 r9 n9 z9 F9 G9 (Eo9 0 0) ++ mW mo ma cs J1 G1m) ++ [(ou, .inl (cL, 1, .inr (.inl fo9)))])) hD [0, 1, 2, 3, 4, 5, 6, 7, 8, 9, 10, 11, 12, 13, 14, 15, 16, 17, 18, 19, 20, 21, 22, 23, 24, 25, 26, 27, 28, 30, 31, 32, 33, 34, 35, 36, 37, 38, 39, 40, 41, 42, 43, 44, 45, 46, 47, 48, 49, 50, 51, 52, 53, 54, 55, 56, 57, 58, 29] lq_5 rfl
  obtain ⟨-, -, hOp⟩ := sr_print hI hR hQ hW hV hPg hYl (hok9.1 1 (by decide)).1 (hrelF ()) hw
  have hO9 := hOp hOl
  obtain ⟨hR9, hI9, hQ9, hW9⟩ := sw_print hI hR hQ hW (wk_print (wk_print7 (hrelF ()))) ⟨hw.1, hw.2.1⟩
  have hV9 := ss_print hV (wk_print (wk_print7 (hrelF ()))) hw.1
  obtain ⟨hPg9, hCk9⟩ := sp_print hI hR hW hPg hCk (wk_print7 (hrelF ())) hw.1
  have hY9 := sy_print hYl (hrelF ()) hw.1
  refine W.eq (g2 := F0 m 628 ls [.int (iz rr1)]) rfl ?_
  refine lv_istore (lv' := [(6, .int (iz rr1)), (5, .int (iz q9)), (4, .int (iz (4 * k))), (3, .ref ou), (2, .ref mo), (1, .ref (o 15)), (0, .ref b)]) hx hb dL_law_628 hl (by decide) rfl (fun ls hl => ?_)
  refine lv_goto (tgt := 689) hx hb dL_law_630 (by decide) ?_
  exact kk o9 r9 n9 z9 F9 G9 N9 Eo9 Er9 En9 Ez9 EF9 fo9 J1 G1m H _ _ _ ls (ho9 15 (by decide) (by decide)) hok9 hxG9 hPE9 hI9 ⟨⟨⟨⟨hR9, hQ9, hW9, hV9⟩, hPg9, hCk9⟩, hY9⟩, hO9⟩ hP hD hS hlc.1 hls.1 (lv_sub hl [2, 3, 4, 5, 6] rfl)
set_option maxHeartbeats 4000000 in
set_option maxRecDepth 100000 in
theorem law_at {p : Program} {l : Launch} {e : Env} {s : State} {m : MethodId} {below : List Frame} {meth : Method} {c : Code} {b : Nat} {dC : Nat → ClassId} {dI : Nat → Nat → Nat} {cI cB cE cL : ClassId} {cs : Nat → ClassId} {mo : Nat} {ma : Nat → Nat} {ou xr : Nat} {L : Nat} {xs : Nat → Int32} {k : Int} (hlf : l.stackTraces = false) (C0 : lw_At p s m meth c b L xs) (hL : L ≤ 256) (hk : 0 ≤ k ∧ 4 * k + 4 ≤ (L : Int)) (hK : va_K (dC, dI) kxCl (lT cI cB cE cL cs) s) (kk : LW p l e s m below meth c b dC dI cI cB cE cL cs mo ma ou xr k (k + 1) 689) : LW p l e s m below meth c b dC dI cI cB cE cL cs mo ma ou xr k k 633 := by
  obtain ⟨hx, hb, hr, hml, hown, hts0, hX, hbl, hlocks, hgv⟩ := id C0
  have hown : s.vm.findClass RL = some m.cls := hown
  have hA : ∀ q : Nat, s.heap.size ≤ q → (fun q : Nat => s.heap.size ≤ q) q := fun _ h => h
  have hbA : ¬ (fun q : Nat => s.heap.size ≤ q) b := Nat.not_le.mpr hbl
  have hG : kx_G s := ⟨s, _, hts0, hgv, State.WarmedH.refl s⟩
  have hZ : kx_Z (fun q : Nat => s.heap.size ≤ q) s s.heap := law_Z hts0 hgv
  have hts := kx_hts (a := #[Value.ref b]) hG
  intro o r n z F G N Eo Er En Ez EF fo I Fm H locs cells slots ls hxr hok hxG hPE hI hR hP hD hS hcl hsl hl
  subst hxr
  obtain ⟨⟨hR, hYl⟩, hOl⟩ := hR
  obtain ⟨⟨hR, hQ, hW, hV⟩, hPg, hCk⟩ := hR
  obtain ⟨hN1, hN2, hN3, hN4⟩ := id hxG
  have hz78 := hR.2.1
  have hk64 := hI.2.1.1
  have hk01 : 0 ≤ k ∧ k < 64 := by omega
  obtain ⟨a1, ea1, a1l, a1h⟩ := iz_of (xs (iz (4 * k + 1)).toNatClampNeg)
  obtain ⟨a2, ea2, a2l, a2h⟩ := iz_of (xs (iz (4 * k + 2)).toNatClampNeg)
  obtain ⟨a3, ea3, a3l, a3h⟩ := iz_of (xs (iz (4 * k + 3)).toNatClampNeg)
  refine lv_aload_n hx hb dL_law_633 rfl (lv_at hl 3 rfl) ?_
  refine lv_aload_n hx hb dL_law_634 rfl (lv_at hl 4 rfl) ?_
  refine lv_iload hx hb dL_law_635 (lv_at hl 0 rfl) ?_
  refine lv_iconst (v := iz 1) hx hb dL_law_637 (by decide) ?_
  refine ki_iadd hx hb dL_law_638 ?_
  refine va_sld hx hb hX hbl hbA hS (iz_in (by omega) (by omega) (by omega)) dL_law_639 ?_
  refine ki_is ea1 ?_
  refine lv_aload_n hx hb dL_law_640 rfl (lv_at hl 1 rfl) ?_
  have hPc : va_P (dC, dI) kxCl ((xU cI cB cE o r n z F G (Eo 0 0) ++ [(ou, .inl (cL, 1, .inr (.inl fo)))]) ++ eP cI N Eo Er En Ez EF) H := va_P.part (cx := xU cI cB cE o r n z F G (Eo 0 0) ++ [(ou, .inl (cL, 1, .inr (.inl fo)))]) hP [0, 1, 2, 3, 4, 5, 6, 7, 8, 9, 10, 11, 12, 13, 14, 15, 16, 17, 18, 19, 20, 21, 22, 23, 24, 25, 26, 27, 28, 58] rfl
  have hDc : va_D (fun q : Nat => s.heap.size ≤ q) ((xU cI cB cE o r n z F G (Eo 0 0) ++ [(ou, .inl (cL, 1, .inr (.inl fo)))]) ++ eP cI N Eo Er En Ez EF) := va_D.part (cx := xU cI cB cE o r n z F G (Eo 0 0) ++ [(ou, .inl (cL, 1, .inr (.inl fo)))]) hD [0, 1, 2, 3, 4, 5, 6, 7, 8, 9, 10, 11, 12, 13, 14, 15, 16, 17, 18, 19, 20, 21, 22, 23, 24, 25, 26, 27, 28, 58] lq_0 rfl
  have hFc := va_freeP (cx := xU cI cB cE o r n z F G (Eo 0 0) ++ [(ou, .inl (cL, 1, .inr (.inl fo)))]) hD hS hA [0, 1, 2, 3, 4, 5, 6, 7, 8, 9, 10, 11, 12, 13, 14, 15, 16, 17, 18, 19, 20, 21, 22, 23, 24, 25, 26, 27, 28, 58] rfl
  have hKc := hK.sub (tys' := [(cI, .int), (cB, .byte), (cE, .object RX0), (cL, .long)]) [0, 1, 2, 31] rfl
  refine xk_call (vx_runSW (As := [.ref (o 15), .int (iz a1), .ref ou]) (rest := []) ⟨hx, hb, hml, hown, hts⟩ (h_at7 l hlf dC dI cI cB cE cL o r n z F G N Eo Er En Ez EF ou fo a1 H.size hok hxG hPE (by omega) (by omega)) (vx_cwSW 3 hts (kx_gS kq_92_law_81 kq_92_law_82 kq_92_law_2 kq_25_xhelp_68 rfl) rfl rfl rfl (by decide +kernel) ⟨Nat.le_of_ble_eq_true rfl, Nat.le_of_ble_eq_true rfl⟩) ⟨kx_blind, kx_give (ws := []) (tys := []) hPc hDc hKc hG hZ hS hFc⟩ rfl rfl hl.1 rfl (lv_room (Nat.le_of_ble_eq_true rfl)) dL_law_641 ⟨show cells + 100 ≤ 600384 from (by omega), show slots + 42000 ≤ 7291369 from (by omega)⟩) hS (fun q _ h => hFc q h) hFc (fun u dn9 dm9 t H1 locs ht hvm hq hB hk1 hS => ?_)
  obtain ⟨q9, fo9, o9, r9, n9, z9, F9, G9, N9, Eo9, Er9, En9, Ez9, EF9⟩ := u
  obtain ⟨hP1, hK1, hD1⟩ := hB
  rw [ht] at hP1
  try dsimp only at hq
  obtain ⟨hP, hD⟩ := va_joinP (wr := mW mo ma cs I Fm) (rx := xU cI cB cE o9 r9 n9 z9 F9 G9 (Eo9 0 0) ++ [(ou, .inl (cL, 1, .inr (.inl fo9)))]) (pl1 := eP cI N9 Eo9 Er9 En9 Ez9 EF9) hP hD [0, 1, 2, 3, 4, 5, 6, 7, 8, 9, 10, 11, 12, 13, 14, 15, 16, 17, 18, 19, 20, 21, 22, 23, 24, 25, 26, 27, 28, 58] [29, 30, 31, 32, 33, 34, 35, 36, 37, 38, 39, 40, 41, 42, 43, 44, 45, 46, 47, 48, 49, 50, 51, 52, 53, 54, 55, 56, 57] rfl rfl lq_1 lq_2 hk1 hFc hP1 hD1
  generalize H1 = H at hP hS ⊢
  have hP : va_P (dC, dI) kxCl (((xU cI cB cE o9 r9 n9 z9 F9 G9 (Eo9 0 0) ++ mW mo ma cs I Fm) ++ [(ou, .inl (cL, 1, .inr (.inl fo9)))]) ++ eP cI N9 Eo9 Er9 En9 Ez9 EF9) H := va_P.part (cx := ((xU cI cB cE o9 r9 n9 z9 F9 G9 (Eo9 0 0) ++ mW mo ma cs I Fm) ++ [(ou, .inl (cL, 1, .inr (.inl fo9)))])) hP [29, 30, 31, 32, 33, 34, 35, 36, 37, 38, 39, 40, 41, 42, 43, 44, 45, 46, 47, 48, 49, 50, 51, 52, 53, 54, 55, 56, 57, 0, 1, 2, 3, 4, 5, 6, 7, 8, 9, 10, 11, 12, 13, 14, 15, 16, 17, 18, 19, 20, 21, 22, 23, 24, 25, 26, 27, 28, 58] rfl
  have hD : va_D (fun q : Nat => s.heap.size ≤ q) (((xU cI cB cE o9 r9 n9 z9 F9 G9 (Eo9 0 0) ++ mW mo ma cs I Fm) ++ [(ou, .inl (cL, 1, .inr (.inl fo9)))]) ++ eP cI N9 Eo9 Er9 En9 Ez9 EF9) := va_D.part (cx := ((xU cI cB cE o9 r9 n9 z9 F9 G9 (Eo9 0 0) ++ mW mo ma cs I Fm) ++ [(ou, .inl (cL, 1, .inr (.inl fo9)))])) hD [29, 30, 31, 32, 33, 34, 35, 36, 37, 38, 39, 40, 41, 42, 43, 44, 45, 46, 47, 48, 49, 50, 51, 52, 53, 54, 55, 56, 57, 0, 1, 2, 3, 4, 5, 6, 7, 8, 9, 10, 11, 12, 13, 14, 15, 16, 17, 18, 19, 20, 21, 22, 23, 24, 25, 26, 27, 28, 58] lq_3 rfl
  obtain ⟨hok9, hxG9, hPE9, hcost, ho9, hrel⟩ := hq
  have hrelF := fun (_ : Unit) => hrel
  clear hrel
  have hlc := lcC hcl (Nat.le_trans hcost.1 (by decide)) hk01
  have hls := lcS hsl (Nat.le_trans hcost.2 (by decide)) hk01
  refine W.eq (g2 := F0 m 644 ls [.int (iz q9)]) rfl ?_
  refine lv_istore (lv' := [(5, .int (iz q9)), (4, .int (iz (4 * k))), (3, .ref ou), (2, .ref mo), (1, .ref (o 15)), (0, .ref b)]) hx hb dL_law_644 hl (by decide) rfl (fun ls hl => ?_)
  refine lv_aload_n hx hb dL_law_646 rfl (lv_at hl 3 rfl) ?_
  refine lv_aload_n hx hb dL_law_647 rfl (lv_at hl 5 rfl) ?_
  refine lv_iload hx hb dL_law_648 (lv_at hl 1 rfl) ?_
  refine lv_iconst (v := iz 1) hx hb dL_law_650 (by decide) ?_
  refine ki_iadd hx hb dL_law_651 ?_
  refine va_sld hx hb hX hbl hbA hS (iz_in (by omega) (by omega) (by omega)) dL_law_652 ?_
  refine ki_is ea1 ?_
  have hPc := hP.sub (ws' := mW mo ma cs I Fm) [29, 30, 31, 32, 33, 34, 35, 36, 37, 38, 39, 40, 41, 42, 43, 44, 45, 46, 47, 48, 49, 50, 51, 52, 53, 54, 55, 56, 57] rfl
  have hDc := hD.sub (ws' := mW mo ma cs I Fm) [29, 30, 31, 32, 33, 34, 35, 36, 37, 38, 39, 40, 41, 42, 43, 44, 45, 46, 47, 48, 49, 50, 51, 52, 53, 54, 55, 56, 57] lq_1 rfl
  have hFc := va_free (wc := mW mo ma cs I Fm) hD hS hA [29, 30, 31, 32, 33, 34, 35, 36, 37, 38, 39, 40, 41, 42, 43, 44, 45, 46, 47, 48, 49, 50, 51, 52, 53, 54, 55, 56, 57] rfl
  have hKc := hK.sub (tys' := mT cs) [3, 4, 5, 6, 7, 8, 9, 10, 11, 12, 13, 14, 15, 16, 17, 18, 19, 20, 21, 22, 23, 24, 25, 26, 27, 28, 29, 30] rfl
  refine va_calli (va_runV (As := [.int (iz a1)]) (rest := []) ⟨hx, hb, hml, hown, hts⟩ (k_at8 l dC dI mo ma cs I Fm a1 H.size hI.1 (by omega) (by omega) (hW.kb hQ hI)) (cwV 1 hts (kx_gV kq_92_law_83 kq_92_law_84 kq_92_law_85 kq_04_msmall_6 kq_92_law_86 rfl) rfl rfl rfl (by decide +kernel) ⟨Nat.le_of_ble_eq_true rfl, Nat.le_of_ble_eq_true rfl⟩) ⟨kx_blind, va_recv hKc hPc (ci := 6) (q0 := 0) rfl rfl, kx_give (ws := []) (tys := []) hPc hDc hKc hG hZ hS hFc⟩ rfl rfl hl.1 rfl (lv_room (Nat.le_of_ble_eq_true rfl)) dL_law_653 ⟨show (cells + dn9) + 0 ≤ 600384 from (Nat.le_trans hlc.2 (by decide)), show (slots + dm9) + 0 ≤ 7291369 from (Nat.le_trans hls.2 (by decide))⟩) hS (fun q _ h => hFc q h) hFc (fun r u t H1 locs ht hvm hw hB hz1 hk1 hS => ?_)
  obtain ⟨rr1, J1, G1m⟩ := u
  obtain ⟨hP1, hK1, hD1⟩ := hB
  rw [ht] at hP1
  obtain ⟨e1, hw⟩ := hw
  subst e1
  try dsimp only at hw
  obtain ⟨hP, hD⟩ := va_joinQ (wr := xU cI cB cE o9 r9 n9 z9 F9 G9 (Eo9 0 0) ++ [(ou, .inl (cL, 1, .inr (.inl fo9)))]) (w1 := mW mo ma cs J1 G1m) hP hD [29, 30, 31, 32, 33, 34, 35, 36, 37, 38, 39, 40, 41, 42, 43, 44, 45, 46, 47, 48, 49, 50, 51, 52, 53, 54, 55, 56, 57] [0, 1, 2, 3, 4, 5, 6, 7, 8, 9, 10, 11, 12, 13, 14, 15, 16, 17, 18, 19, 20, 21, 22, 23, 24, 25, 26, 27, 28, 58] rfl rfl lq_0 lq_4 hk1 hFc hP1 hD1
  generalize H1 = H at hP hS ⊢
  have hP : va_P (dC, dI) kxCl (((xU cI cB cE o9 r9 n9 z9 F9 G9 (Eo9 0 0) ++ mW mo ma cs J1 G1m) ++ [(ou, .inl (cL, 1, .inr (.inl fo9)))]) ++ eP cI N9 Eo9 Er9 En9 Ez9 EF9) H := va_P.part (cx := ((xU cI cB cE o9 r9 n9 z9 F9 G9 (Eo9 0 0) ++ mW mo ma cs J1 G1m) ++ [(ou, .inl (cL, 1, .inr (.inl fo9)))])) hP [0, 1, 2, 3, 4, 5, 6, 7, 8, 9, 10, 11, 12, 13, 14, 15, 16, 17, 18, 19, 20, 21, 22, 23, 24, 25, 26, 27, 28, 30, 31, 32, 33, 34, 35, 36, 37, 38, 39, 40, 41, 42, 43, 44, 45, 46, 47, 48, 49, 50, 51, 52, 53, 54, 55, 56, 57, 58, 29] rfl
  have hD : va_D (fun q : Nat => s.heap.size ≤ q) (((xU cI cB cE o9 r9 n9 z9 F9 G9 (Eo9 0 0) ++ mW mo ma cs J1 G1m) ++ [(ou, .inl (cL, 1, .inr (.inl fo9)))]) ++ eP cI N9 Eo9 Er9 En9 Ez9 EF9) := va_D.part (cx := ((xU cI cB cE o9 r9 n9 z9 F9 G9 (Eo9 0 0) ++ mW mo ma cs J1 G1m) ++ [(ou, .inl (cL, 1, .inr (.inl fo9)))])) hD [0, 1, 2, 3, 4, 5, 6, 7, 8, 9, 10, 11, 12, 13, 14, 15, 16, 17, 18, 19, 20, 21, 22, 23, 24, 25, 26, 27, 28, 30, 31, 32, 33, 34, 35, 36, 37, 38, 39, 40, 41, 42, 43, 44, 45, 46, 47, 48, 49, 50, 51, 52, 53, 54, 55, 56, 57, 58, 29] lq_5 rfl
  obtain ⟨hcode, hans⟩ := sr_at hOl (hrelF ()) hw
  obtain ⟨hR9, hI9, hQ9, hW9⟩ := sw_at hI hR hQ hW (wk_at7 (hrelF ())) ⟨hw.1.1, hw.1.2.1⟩
  have hV9 := ss_at hV (wk_at7 (hrelF ())) hw.1.1
  obtain ⟨hPg9, hCk9⟩ := sp_at hI hR hW hPg hCk (wk_at7 (hrelF ())) hw.1.1
  have hY9 := sy_at hYl (wk_at7 (hrelF ())) hw.1.1
  have hO9 := so_at hOl (hrelF ()) hw.2
  refine W.eq (g2 := F0 m 656 ls [.int (iz rr1)]) rfl ?_
  have hbq := hI9.1.hB.1 0
  refine lv_istore (lv' := [(6, .int (iz rr1)), (5, .int (iz q9)), (4, .int (iz (4 * k))), (3, .ref ou), (2, .ref mo), (1, .ref (o 15)), (0, .ref b)]) hx hb dL_law_656 hl (by decide) rfl (fun ls hl => ?_)
  refine lv_aload_n hx hb dL_law_658 rfl (lv_at hl 4 rfl) ?_
  have hPc := hP.sub (ws' := mW mo ma cs J1 G1m) [29, 30, 31, 32, 33, 34, 35, 36, 37, 38, 39, 40, 41, 42, 43, 44, 45, 46, 47, 48, 49, 50, 51, 52, 53, 54, 55, 56, 57] rfl
  have hDc := hD.sub (ws' := mW mo ma cs J1 G1m) [29, 30, 31, 32, 33, 34, 35, 36, 37, 38, 39, 40, 41, 42, 43, 44, 45, 46, 47, 48, 49, 50, 51, 52, 53, 54, 55, 56, 57] lq_1 rfl
  have hFc := va_free (wc := mW mo ma cs J1 G1m) hD hS hA [29, 30, 31, 32, 33, 34, 35, 36, 37, 38, 39, 40, 41, 42, 43, 44, 45, 46, 47, 48, 49, 50, 51, 52, 53, 54, 55, 56, 57] rfl
  have hKc := hK.sub (tys' := mT cs) [3, 4, 5, 6, 7, 8, 9, 10, 11, 12, 13, 14, 15, 16, 17, 18, 19, 20, 21, 22, 23, 24, 25, 26, 27, 28, 29, 30] rfl
  refine va_calli (va_runV (As := []) (rest := []) ⟨hx, hb, hml, hown, hts⟩ (k_thrown l dC dI mo ma cs J1 G1m  H.size hI9.1.hB) (cwV 0 hts (kx_gV kq_92_law_87 kq_92_law_88 kq_92_law_89 kq_04_msmall_6 kq_92_law_90 rfl) rfl rfl rfl (by decide +kernel) ⟨Nat.le_of_ble_eq_true rfl, Nat.le_of_ble_eq_true rfl⟩) ⟨kx_blind, va_recv hKc hPc (ci := 6) (q0 := 0) rfl rfl, kx_give (ws := []) (tys := []) hPc hDc hKc hG hZ hS hFc⟩ rfl rfl hl.1 rfl (lv_room (Nat.le_of_ble_eq_true rfl)) dL_law_659 ⟨show ((cells + dn9) + 0) + 0 ≤ 600384 from (Nat.le_trans hlc.2 (by decide)), show ((slots + dm9) + 0) + 0 ≤ 7291369 from (Nat.le_trans hls.2 (by decide))⟩) hS (fun q _ h => hFc q h) hFc (fun r u t H1 locs ht hvm hw hB hz1 hk1 hS => ?_)
  obtain ⟨rr2, J2, G2m⟩ := u
  obtain ⟨hP1, hK1, hD1⟩ := hB
  rw [ht] at hP1
  obtain ⟨e1, hw⟩ := hw
  subst e1
  try dsimp only at hw
  obtain ⟨hP, hD⟩ := va_joinQ (wr := xU cI cB cE o9 r9 n9 z9 F9 G9 (Eo9 0 0) ++ [(ou, .inl (cL, 1, .inr (.inl fo9)))]) (w1 := mW mo ma cs J2 G2m) hP hD [29, 30, 31, 32, 33, 34, 35, 36, 37, 38, 39, 40, 41, 42, 43, 44, 45, 46, 47, 48, 49, 50, 51, 52, 53, 54, 55, 56, 57] [0, 1, 2, 3, 4, 5, 6, 7, 8, 9, 10, 11, 12, 13, 14, 15, 16, 17, 18, 19, 20, 21, 22, 23, 24, 25, 26, 27, 28, 58] rfl rfl lq_0 lq_4 hk1 hFc hP1 hD1
  generalize H1 = H at hP hS ⊢
  have hP : va_P (dC, dI) kxCl (((xU cI cB cE o9 r9 n9 z9 F9 G9 (Eo9 0 0) ++ mW mo ma cs J2 G2m) ++ [(ou, .inl (cL, 1, .inr (.inl fo9)))]) ++ eP cI N9 Eo9 Er9 En9 Ez9 EF9) H := va_P.part (cx := ((xU cI cB cE o9 r9 n9 z9 F9 G9 (Eo9 0 0) ++ mW mo ma cs J2 G2m) ++ [(ou, .inl (cL, 1, .inr (.inl fo9)))])) hP [0, 1, 2, 3, 4, 5, 6, 7, 8, 9, 10, 11, 12, 13, 14, 15, 16, 17, 18, 19, 20, 21, 22, 23, 24, 25, 26, 27, 28, 30, 31, 32, 33, 34, 35, 36, 37, 38, 39, 40, 41, 42, 43, 44, 45, 46, 47, 48, 49, 50, 51, 52, 53, 54, 55, 56, 57, 58, 29] rfl
  have hD : va_D (fun q : Nat => s.heap.size ≤ q) (((xU cI cB cE o9 r9 n9 z9 F9 G9 (Eo9 0 0) ++ mW mo ma cs J2 G2m) ++ [(ou, .inl (cL, 1, .inr (.inl fo9)))]) ++ eP cI N9 Eo9 Er9 En9 Ez9 EF9) := va_D.part (cx := ((xU cI cB cE o9 r9 n9 z9 F9 G9 (Eo9 0 0) ++ mW mo ma cs J2 G2m) ++ [(ou, .inl (cL, 1, .inr (.inl fo9)))])) hD [0, 1, 2, 3, 4, 5, 6, 7, 8, 9, 10, 11, 12, 13, 14, 15, 16, 17, 18, 19, 20, 21, 22, 23, 24, 25, 26, 27, 28, 30, 31, 32, 33, 34, 35, 36, 37, 38, 39, 40, 41, 42, 43, 44, 45, 46, 47, 48, 49, 50, 51, 52, 53, 54, 55, 56, 57, 58, 29] lq_5 rfl
  obtain ⟨rfl, rfl, hth⟩ := hw
  have hP : va_P (dC, dI) kxCl (((xU cI cB cE o9 r9 n9 z9 F9 G9 (Eo9 0 0) ++ mW mo ma cs J1 G1m) ++ [(ou, .inl (cL, 1, .inr (.inl fo9)))]) ++ eP cI N9 Eo9 Er9 En9 Ez9 EF9) H := hP
  have hD : va_D (fun q : Nat => s.heap.size ≤ q) (((xU cI cB cE o9 r9 n9 z9 F9 G9 (Eo9 0 0) ++ mW mo ma cs J1 G1m) ++ [(ou, .inl (cL, 1, .inr (.inl fo9)))]) ++ eP cI N9 Eo9 Er9 En9 Ez9 EF9) := hD
  refine W.eq (g2 := F0 m 662 ls [.int (iz rr2)]) rfl ?_
  have hbd0 := hI9.1.hB.1 0
  refine lv_iload hx hb dL_law_662 (lv_at hl 1 rfl) ?_
  refine ki_icmp_eq (tgt := 669) hx hb dL_law_664 (by decide) (by omega) (by omega) (by omega) (by omega) (fun c_3 => ?_) (fun c_3 => ?_)
  · skip
    refine lv_iload hx hb dL_law_669 (lv_at hl 1 rfl) ?_
    refine ki_if_ne (tgt := 686) hx hb dL_law_671 (by decide) (by omega) (by omega) (fun c_4 => ?_) (fun c_4 => ?_)
    · skip
      refine lv_goto (tgt := 689) hx hb dL_law_686 (by decide) ?_
      exact kk o9 r9 n9 z9 F9 G9 N9 Eo9 Er9 En9 Ez9 EF9 fo9 J1 G1m H _ _ _ ls (ho9 15 (by decide) (by decide)) hok9 hxG9 hPE9 hI9 ⟨⟨⟨⟨hR9, hQ9, hW9, hV9⟩, hPg9, hCk9⟩, hY9⟩, hO9⟩ hP hD hS hlc.1 hls.1 (lv_sub hl [2, 3, 4, 5, 6] rfl)
    · skip
      refine lv_aload_n hx hb dL_law_674 rfl (lv_at hl 3 rfl) ?_
      refine lv_iconst (v := iz 0) hx hb dL_law_675 (by decide) ?_
      refine va_lald hx hb hK hP 58 31 rfl rfl (iz_in (by omega) (by omega) (by omega)) dL_law_676 ?_
      refine lv_iload hx hb dL_law_677 (lv_at hl 0 rfl) ?_
      refine lv_i2l (v := Int32.toInt64 (iz rr1)) hx hb dL_law_679 rfl ?_
      refine W.lcmp hx hb dL_law_680 ?_
      refine ki_is (show lg_cmp _ _ = iz 0 from kz_cmp (by rw [show (iz 0).toNatClampNeg = 0 by decide]; exact hans c_4)) ?_
      refine ki_if_eq (tgt := 686) hx hb dL_law_681 (by decide) (by omega) (by omega) (fun c_5 => ?_) (fun c_5 => ?_)
      · skip
        refine lv_goto (tgt := 689) hx hb dL_law_686 (by decide) ?_
        exact kk o9 r9 n9 z9 F9 G9 N9 Eo9 Er9 En9 Ez9 EF9 fo9 J1 G1m H _ _ _ ls (ho9 15 (by decide) (by decide)) hok9 hxG9 hPE9 hI9 ⟨⟨⟨⟨hR9, hQ9, hW9, hV9⟩, hPg9, hCk9⟩, hY9⟩, hO9⟩ hP hD hS hlc.1 hls.1 (lv_sub hl [2, 3, 4, 5, 6] rfl)
      · exact absurd rfl c_5
  · exact absurd (by omega) c_3
