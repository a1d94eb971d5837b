/-! THE CLAIM OUT OF ONE WALK OF THE LAW'S BODY. Your part is whole_start (and what it stands on); all else here is the same for every law, but numbers. -/
def R_law : String := "IndexSortLaw"
def lw_P (b : Addr) (xs : List Int32) (args : Array Value) (s : State) : Prop := args = #[.ref b] ∧ s.IntsAt b xs ∧ xs.length ≤ 256 ∧ (Jvm.Cond.and given_1 narrow_1).before args s = true
def lw_Q (_ : Array Value) (s : State) (o : Outcome) (t : State) : Prop := o = .returned (some (.int 1)) ∧ Framed s o t [] 600384 7291369
def lw_Z (below : List Frame) (a : Array Value) (s : State) : State → Prop := fun t => ∃ o, t.status = .running ∧ Ended t below o ∧ lw_Q a s o t
/-- the law's own end, with 1 on the stack, nothing written that was there before, its room as the claim has it -/
theorem lw_ret {p : Program} {l : Launch} {e : Env} {s : State} {m : MethodId} {below : List Frame} {meth : Method} {c : Code} {b : Nat} (hx : p.tables.exec = Jvm.exec) (hb : c.code = code) (hr : meth.sig.returnType = ret) (hlocks : meth.locks = false) {pc : Nat} {H : Heap} {ls : Array Slot} (hdg : decode code pc = .ok (.ireturn, 1)) : W p l e room_1 s m #[Value.ref b] below meth c H [] 600384 7291369 (lw_Z below #[Value.ref b] s) (F0 m pc ls [.int 1]) := by
  intro T hT X
  obtain ⟨fs, hret, hrun, hended, hW, hframe⟩ := X.leave (v := some (.int 1)) (hlocks := hlocks) (fun h => by rw [hr] at h; cases h)
  have hmeth' : T.vm.method? m = some meth := X.method'
  refine ⟨T.setFrames fs, ?_, .returned (some (.int 1)), hrun, hended, rfl, ⟨_, rfl⟩, hW, hframe⟩
  jvm_step X.here [X.here.top, hx, hb, hdg, hmeth', hr, ret, narrow_b1]
  (try refine ⟨rfl, ?_⟩); (try refine ⟨rfl, ?_⟩)
  first | (intro acts; rw [hret _ acts rfl rfl rfl]) | rw [hret _ _ rfl rfl rfl]
  exact Steps.refl _
/-- what holds at the law's entry: the machine, the code, the tables' words (any of lw_tbl by 'hts w (by decide +kernel)'), the script of L ints xs at the cell b, what the Statement gives of the start (any of its parts by flat_of_before) -/
def lw_At (p : Program) (s : State) (m : MethodId) (meth : Method) (c : Code) (b L : Nat) (xs : Nat → Int32) : Prop :=
  p.tables.exec = Jvm.exec ∧ c.code = code ∧ meth.sig.returnType = ret ∧ c.maxLocals = 7 ∧ s.vm.findClass R_law = some m.cls ∧ (∀ w ∈ lw_tbl, w.before #[Value.ref b] s = true) ∧ va_X b L xs s s.heap ∧ b < s.heap.size ∧ meth.locks = false ∧ (Jvm.Cond.and given_1 narrow_1).before #[Value.ref b] s = true
/-! the law: its world, what holds at its loop's head -/
abbrev lT (cI cB cE cL : ClassId) (cs : Nat → ClassId) : List (ClassId × FieldType) := [(cI, .int), (cB, .byte), (cE, .object RX0), (cs 2, .int), (cs 3, .int), (cs 4, .int), (cs 5, .int), (cs 6, .int), (cs 7, .int), (cs 8, .int), (cs 9, .boolean), (cs 10, .int), (cs 11, .int), (cs 12, .int), (cs 13, .int), (cs 17, .int), (cs 18, .int), (cs 20, .int), (cs 21, .boolean), (cs 22, .int), (cs 23, .int), (cs 24, .int), (cs 25, .int), (cs 26, .int), (cs 27, .int), (cs 28, .boolean), (cs 34, .int), (cs 36, .int), (cs 38, .int), (cs 39, .byte), (cs 41, .byte), (cL, .long)]
/-- from the place pc on, with i = 4 k and what holds after kk calls, the law comes to its end with true -/
def LW (p : Program) (l : Launch) (e : Env) (s : State) (m : MethodId) (below : List Frame) (meth : Method) (c : Code) (b : Nat) (dC : Nat → ClassId) (dI : Nat → Nat → Nat) (cI cB cE cL : ClassId) (cs : Nat → ClassId) (mo : Nat) (ma : Nat → Nat) (ou xr : Nat) (k kk : Int) (pc : Nat) : Prop :=
  ∀ (o : Nat → Nat) (r : Nat → Nat) (n : Nat → Nat) (z : Nat → Int) (F : Nat → Int → Int) (G : Nat → Option Nat) (N : Nat) (Eo : Nat → Nat → Nat) (Er : Nat → Nat → Nat) (En : Nat → Nat → Nat) (Ez : Nat → Nat → Int) (EF : Nat → Nat → Int → Int) (fo : Nat → Int64) (I : Nat → Int) (Fm : Nat → Int → Int) (H : Heap) (locs : List Loc) (cells slots : Nat) (ls : Array Slot), o 15 = xr → xOk n z F → xG N (z 12) G Eo → eA N En Ez EF → mIk kk I Fm → lawR z Ez EF I Fm →
    va_P (dC, dI) kxCl (((xU cI cB cE o r n z F G (Eo 0 0) ++ mW mo ma cs I Fm) ++ [(ou, .inl (cL, 1, .inr (.inl fo)))]) ++ eP cI N Eo Er En Ez EF) H → va_D (fun q : Nat => s.heap.size ≤ q) (((xU cI cB cE o r n z F G (Eo 0 0) ++ mW mo ma cs I Fm) ++ [(ou, .inl (cL, 1, .inr (.inl fo)))]) ++ eP cI N Eo Er En Ez EF) → va_S (fun q : Nat => s.heap.size ≤ q) s.heap H locs → cells ≤ 200 + 820 * kk.toNat → slots ≤ 30000 + 51400 * kk.toNat → lv_has ls 7 [(4, .int (iz (4 * k))), (3, .ref ou), (2, .ref mo), (1, .ref xr), (0, .ref b)] →
    W p l e room_1 s m #[Value.ref b] below meth c H locs cells slots (lw_Z below #[Value.ref b] s) (F0 m pc ls [])
theorem lcC {a d : Nat} {k : Int} (h : a ≤ 200 + 820 * k.toNat) (hd : d ≤ 820) (hk : 0 ≤ k ∧ k < 64) : a + d ≤ 200 + 820 * (k + 1).toNat ∧ a + d ≤ 52680 := by omega
theorem lcS {a d : Nat} {k : Int} (h : a ≤ 30000 + 51400 * k.toNat) (hd : d ≤ 51400) (hk : 0 ≤ k ∧ k < 64) : a + d ≤ 30000 + 51400 * (k + 1).toNat ∧ a + d ≤ 3319600 := by omega
theorem kz_cmp {a b : Int64} (h : a = b) : lg_cmp a b = 0 := by
  subst h
  rw [lg_cmp, if_neg (show ¬ a > a from Int64.lt_irrefl), if_pos rfl]
theorem kq_27_law_0 : (Cond.methodLink RL 68 yL_entry) ∈ lw_tbl := by decide +kernel
theorem kq_27_law_1 : (Cond.static yL_entry) ∈ lw_tbl := by decide +kernel
theorem kq_27_law_2 : (Cond.initialized RL) ∈ lw_tbl := by decide +kernel
theorem kq_27_law_3 : (Cond.methodLink RL 73 yX6_entry) ∈ lw_tbl := by decide +kernel
theorem kq_27_law_4 : (Cond.instanceMethod yX6_entry) ∈ lw_tbl := by decide +kernel
theorem kq_27_law_5 : (Cond.selects RX6 yX6_entry yX6_entry) ∈ lw_tbl := by decide +kernel
theorem kq_27_law_6 : (Cond.code yX6_entry cX6_entry 4 (some .int)) ∈ lw_tbl := by decide +kernel
theorem kq_27_law_7 : (Cond.methodLink RL 74 yL_sign) ∈ lw_tbl := by decide +kernel
theorem kq_27_law_8 : (Cond.static yL_sign) ∈ lw_tbl := by decide +kernel
theorem kq_27_law_9 : (Cond.methodLink RL 76 yX6_sign) ∈ lw_tbl := by decide +kernel
theorem kq_27_law_10 : (Cond.instanceMethod yX6_sign) ∈ lw_tbl := by decide +kernel
theorem kq_27_law_11 : (Cond.selects RX6 yX6_sign yX6_sign) ∈ lw_tbl := by decide +kernel
theorem kq_27_law_12 : (Cond.code yX6_sign cX6_sign 3 (some .int)) ∈ lw_tbl := by decide +kernel
theorem kq_27_law_13 : (Cond.methodLink RL 77 yL_page) ∈ lw_tbl := by decide +kernel
theorem kq_27_law_14 : (Cond.static yL_page) ∈ lw_tbl := by decide +kernel
theorem kq_27_law_15 : (Cond.methodLink RL 80 yX6_page) ∈ lw_tbl := by decide +kernel
theorem kq_27_law_16 : (Cond.instanceMethod yX6_page) ∈ lw_tbl := by decide +kernel
theorem kq_27_law_17 : (Cond.selects RX6 yX6_page yX6_page) ∈ lw_tbl := by decide +kernel
theorem kq_27_law_18 : (Cond.code yX6_page cX6_page 4 (some .int)) ∈ lw_tbl := by decide +kernel
theorem kq_27_law_19 : (Cond.methodLink RL 81 yL_range) ∈ lw_tbl := by decide +kernel
theorem kq_27_law_20 : (Cond.static yL_range) ∈ lw_tbl := by decide +kernel
theorem kq_27_law_21 : (Cond.methodLink RL 84 yX6_range) ∈ lw_tbl := by decide +kernel
theorem kq_27_law_22 : (Cond.instanceMethod yX6_range) ∈ lw_tbl := by decide +kernel
theorem kq_27_law_23 : (Cond.selects RX6 yX6_range yX6_range) ∈ lw_tbl := by decide +kernel
theorem kq_27_law_24 : (Cond.code yX6_range cX6_range 5 (some .int)) ∈ lw_tbl := by decide +kernel
theorem kq_27_law_25 : (Cond.methodLink RL 85 yX6_thrown) ∈ lw_tbl := by decide +kernel
theorem kq_27_law_26 : (Cond.instanceMethod yX6_thrown) ∈ lw_tbl := by decide +kernel
theorem kq_27_law_27 : (Cond.selects RX6 yX6_thrown yX6_thrown) ∈ lw_tbl := by decide +kernel
theorem kq_27_law_28 : (Cond.code yX6_thrown cX6_thrown 1 (some .int)) ∈ lw_tbl := by decide +kernel
theorem kq_27_law_29 : (Cond.methodLink RL 88 yL_see) ∈ lw_tbl := by decide +kernel
theorem kq_27_law_30 : (Cond.static yL_see) ∈ lw_tbl := by decide +kernel
theorem kq_27_law_31 : (Cond.methodLink RL 90 yX6_see) ∈ lw_tbl := by decide +kernel
theorem kq_27_law_32 : (Cond.instanceMethod yX6_see) ∈ lw_tbl := by decide +kernel
theorem kq_27_law_33 : (Cond.selects RX6 yX6_see yX6_see) ∈ lw_tbl := by decide +kernel
theorem kq_27_law_34 : (Cond.code yX6_see cX6_see 6 (some .int)) ∈ lw_tbl := by decide +kernel
theorem kq_27_law_35 : (Cond.methodLink RL 91 yL_rule) ∈ lw_tbl := by decide +kernel
theorem kq_27_law_36 : (Cond.static yL_rule) ∈ lw_tbl := by decide +kernel
theorem kq_27_law_37 : (Cond.methodLink RL 94 yX6_rule) ∈ lw_tbl := by decide +kernel
theorem kq_27_law_38 : (Cond.instanceMethod yX6_rule) ∈ lw_tbl := by decide +kernel
theorem kq_27_law_39 : (Cond.selects RX6 yX6_rule yX6_rule) ∈ lw_tbl := by decide +kernel
theorem kq_27_law_40 : (Cond.code yX6_rule cX6_rule 4 (some .int)) ∈ lw_tbl := by decide +kernel
theorem kq_27_law_41 : (Cond.methodLink RL 95 yX5_run) ∈ lw_tbl := by decide +kernel
theorem kq_27_law_42 : (Cond.instanceMethod yX5_run) ∈ lw_tbl := by decide +kernel
theorem kq_27_law_43 : (Cond.selects RX5 yX5_run yX5_run) ∈ lw_tbl := by decide +kernel
theorem kq_27_law_44 : (Cond.code yX5_run cX5_run 1 (some .int)) ∈ lw_tbl := by decide +kernel
theorem kq_27_law_45 : (Cond.methodLink RL 98 yX6_run) ∈ lw_tbl := by decide +kernel
theorem kq_27_law_46 : (Cond.instanceMethod yX6_run) ∈ lw_tbl := by decide +kernel
theorem kq_27_law_47 : (Cond.selects RX6 yX6_run yX6_run) ∈ lw_tbl := by decide +kernel
theorem kq_27_law_48 : (Cond.code yX6_run cX6_run 1 (some .int)) ∈ lw_tbl := by decide +kernel
theorem kq_27_law_49 : (Cond.methodLink RL 99 yL_row) ∈ lw_tbl := by decide +kernel
theorem kq_27_law_50 : (Cond.static yL_row) ∈ lw_tbl := by decide +kernel
theorem kq_27_law_51 : (Cond.methodLink RL 101 yX6_row) ∈ lw_tbl := by decide +kernel
theorem kq_27_law_52 : (Cond.instanceMethod yX6_row) ∈ lw_tbl := by decide +kernel
theorem kq_27_law_53 : (Cond.selects RX6 yX6_row yX6_row) ∈ lw_tbl := by decide +kernel
theorem kq_27_law_54 : (Cond.code yX6_row cX6_row 4 (some .int)) ∈ lw_tbl := by decide +kernel
theorem kq_27_law_55 : (Cond.methodLink RL 102 yL_locator) ∈ lw_tbl := by decide +kernel
theorem kq_27_law_56 : (Cond.static yL_locator) ∈ lw_tbl := by decide +kernel
theorem kq_27_law_57 : (Cond.methodLink RL 104 yX6_locator) ∈ lw_tbl := by decide +kernel
theorem kq_27_law_58 : (Cond.instanceMethod yX6_locator) ∈ lw_tbl := by decide +kernel
theorem kq_27_law_59 : (Cond.selects RX6 yX6_locator yX6_locator) ∈ lw_tbl := by decide +kernel
theorem kq_27_law_60 : (Cond.code yX6_locator cX6_locator 5 (some .int)) ∈ lw_tbl := by decide +kernel
theorem kq_27_law_61 : (Cond.methodLink RL 105 yL_compare) ∈ lw_tbl := by decide +kernel
theorem kq_27_law_62 : (Cond.static yL_compare) ∈ lw_tbl := by decide +kernel
theorem kq_27_law_63 : (Cond.methodLink RL 107 yX6_compare) ∈ lw_tbl := by decide +kernel
theorem kq_27_law_64 : (Cond.instanceMethod yX6_compare) ∈ lw_tbl := by decide +kernel
theorem kq_27_law_65 : (Cond.selects RX6 yX6_compare yX6_compare) ∈ lw_tbl := by decide +kernel
theorem kq_27_law_66 : (Cond.code yX6_compare cX6_compare 3 (some .int)) ∈ lw_tbl := by decide +kernel
theorem kq_27_law_67 : (Cond.methodLink RL 108 yL_told) ∈ lw_tbl := by decide +kernel
theorem kq_27_law_68 : (Cond.static yL_told) ∈ lw_tbl := by decide +kernel
theorem kq_27_law_69 : (Cond.methodLink RL 110 yX6_told) ∈ lw_tbl := by decide +kernel
theorem kq_27_law_70 : (Cond.instanceMethod yX6_told) ∈ lw_tbl := by decide +kernel
theorem kq_27_law_71 : (Cond.selects RX6 yX6_told yX6_told) ∈ lw_tbl := by decide +kernel
theorem kq_27_law_72 : (Cond.code yX6_told cX6_told 10 (some .int)) ∈ lw_tbl := by decide +kernel
theorem kq_27_law_73 : (Cond.methodLink RL 111 yL_style) ∈ lw_tbl := by decide +kernel
theorem kq_27_law_74 : (Cond.static yL_style) ∈ lw_tbl := by decide +kernel
theorem kq_27_law_75 : (Cond.methodLink RL 114 yX6_style) ∈ lw_tbl := by decide +kernel
theorem kq_27_law_76 : (Cond.instanceMethod yX6_style) ∈ lw_tbl := by decide +kernel
theorem kq_27_law_77 : (Cond.selects RX6 yX6_style yX6_style) ∈ lw_tbl := by decide +kernel
theorem kq_27_law_78 : (Cond.code yX6_style cX6_style 2 (some .int)) ∈ lw_tbl := by decide +kernel
theorem kq_27_law_79 : (Cond.methodLink RL 115 yL_print) ∈ lw_tbl := by decide +kernel
theorem kq_27_law_80 : (Cond.static yL_print) ∈ lw_tbl := by decide +kernel
theorem kq_27_law_81 : (Cond.methodLink RL 118 yX6_print) ∈ lw_tbl := by decide +kernel
theorem kq_27_law_82 : (Cond.instanceMethod yX6_print) ∈ lw_tbl := by decide +kernel
theorem kq_27_law_83 : (Cond.selects RX6 yX6_print yX6_print) ∈ lw_tbl := by decide +kernel
theorem kq_27_law_84 : (Cond.code yX6_print cX6_print 5 (some .int)) ∈ lw_tbl := by decide +kernel
theorem kq_27_law_85 : (Cond.methodLink RL 119 yL_at) ∈ lw_tbl := by decide +kernel
theorem kq_27_law_86 : (Cond.static yL_at) ∈ lw_tbl := by decide +kernel
theorem kq_27_law_87 : (Cond.methodLink RL 121 yX6_at) ∈ lw_tbl := by decide +kernel
theorem kq_27_law_88 : (Cond.instanceMethod yX6_at) ∈ lw_tbl := by decide +kernel
theorem kq_27_law_89 : (Cond.selects RX6 yX6_at yX6_at) ∈ lw_tbl := by decide +kernel
theorem kq_27_law_90 : (Cond.code yX6_at cX6_at 2 (some .int)) ∈ lw_tbl := by decide +kernel
theorem kq_27_law_91 : (Cond.laysStatic Bundle.tN "UNASSIGNED_STACK" Bundle.steD) ∈ lw_tbl := by decide +kernel
theorem kq_27_law_92 : (Cond.initialized Bundle.tN) ∈ lw_tbl := by decide +kernel
theorem kq_27_law_93 : (Cond.laysStatic Bundle.tN "SUPPRESSED_SENTINEL" Bundle.listD) ∈ lw_tbl := by decide +kernel
theorem lq_0 : va_nd [0, 1, 2, 3, 4, 5, 6, 7, 8, 9, 10, 11, 12, 13, 14, 15, 16, 17, 18, 19, 20, 21, 22, 23, 24, 25, 26, 27, 28, 58] = true := by decide
theorem lq_1 : va_nd [29, 30, 31, 32, 33, 34, 35, 36, 37, 38, 39, 40, 41, 42, 43, 44, 45, 46, 47, 48, 49, 50, 51, 52, 53, 54, 55, 56, 57] = true := by decide
theorem lq_2 : ∀ i ∈ [29, 30, 31, 32, 33, 34, 35, 36, 37, 38, 39, 40, 41, 42, 43, 44, 45, 46, 47, 48, 49, 50, 51, 52, 53, 54, 55, 56, 57], i ∉ [0, 1, 2, 3, 4, 5, 6, 7, 8, 9, 10, 11, 12, 13, 14, 15, 16, 17, 18, 19, 20, 21, 22, 23, 24, 25, 26, 27, 28, 58] := by decide
theorem lq_3 : va_nd [29, 30, 31, 32, 33, 34, 35, 36, 37, 38, 39, 40, 41, 42, 43, 44, 45, 46, 47, 48, 49, 50, 51, 52, 53, 54, 55, 56, 57, 0, 1, 2, 3, 4, 5, 6, 7, 8, 9, 10, 11, 12, 13, 14, 15, 16, 17, 18, 19, 20, 21, 22, 23, 24, 25, 26, 27, 28, 58] = true := by decide
theorem lq_4 : ∀ i ∈ [0, 1, 2, 3, 4, 5, 6, 7, 8, 9, 10, 11, 12, 13, 14, 15, 16, 17, 18, 19, 20, 21, 22, 23, 24, 25, 26, 27, 28, 58], i ∉ [29, 30, 31, 32, 33, 34, 35, 36, 37, 38, 39, 40, 41, 42, 43, 44, 45, 46, 47, 48, 49, 50, 51, 52, 53, 54, 55, 56, 57] := by decide
theorem lq_5 : va_nd [0, 1, 2, 3, 4, 5, 6, 7, 8, 9, 10, 11, 12, 13, 14, 15, 16, 17, 18, 19, 20, 21, 22, 23, 24, 25, 26, 27, 28, 30, 31, 32, 33, 34, 35, 36, 37, 38, 39, 40, 41, 42, 43, 44, 45, 46, 47, 48, 49, 50, 51, 52, 53, 54, 55, 56, 57, 58, 29] = true := by decide
theorem lq_6 : va_nd [0, 1, 2, 3, 4, 5, 6, 7, 8, 9, 10, 11, 12, 13, 14, 15, 16, 17, 18, 19, 20, 21, 22, 23, 24, 25, 26, 27, 28] = true := by decide
theorem lq_7 : va_nd [29, 30, 31, 32, 33, 34, 35, 36, 37, 38, 39, 40, 41, 42, 43, 44, 45, 46, 47, 48, 49, 50, 51, 52, 53, 54, 55, 56, 57, 58] = true := by decide
theorem lq_8 : ∀ i ∈ [29, 30, 31, 32, 33, 34, 35, 36, 37, 38, 39, 40, 41, 42, 43, 44, 45, 46, 47, 48, 49, 50, 51, 52, 53, 54, 55, 56, 57, 58], i ∉ [0, 1, 2, 3, 4, 5, 6, 7, 8, 9, 10, 11, 12, 13, 14, 15, 16, 17, 18, 19, 20, 21, 22, 23, 24, 25, 26, 27, 28] := by decide
theorem lq_9 : va_nd [30, 31, 32, 33, 34, 35, 36, 37, 38, 39, 40, 41, 42, 43, 44, 45, 46, 47, 48, 49, 50, 51, 52, 53, 54, 55, 56, 57, 58, 0, 1, 2, 3, 4, 5, 6, 7, 8, 9, 10, 11, 12, 13, 14, 15, 16, 17, 18, 19, 20, 21, 22, 23, 24, 25, 26, 27, 28, 29] = true := by decide
theorem law_Z {s : State} {a : Array Value} (hts0 : ∀ w ∈ lw_tbl, w.before a s = true) (hgv : (Jvm.Cond.and given_1 narrow_1).before a s = true) : kx_Z (fun q : Nat => s.heap.size ≤ q) s s.heap :=
  ⟨vx_Zqof (hts0 _ kq_27_law_91) (hts0 _ kq_27_law_92) (flat_of_before _ hgv _ (by decide +kernel)) (fun a ha h => absurd h (Nat.not_le.mpr ha)),
   vx_Zqof (hts0 _ kq_27_law_93) (hts0 _ kq_27_law_92) (flat_of_before _ hgv _ (by decide +kernel)) (fun a ha h => absurd h (Nat.not_le.mpr ha))⟩
set_option maxHeartbeats 4000000 in
set_option maxRecDepth 100000 in
theorem law_entry {p : Program} {l : Launch} {e : Env} {s : State} {m : MethodId} {below : List Frame} {meth : Method} {c : Code} {b : Nat} {dC : Nat → ClassId} {dI : Nat → Nat → Nat} {cI cB cE cL : ClassId} {cs : Nat → ClassId} {mo : Nat} {ma : Nat → Nat} {ou xr : Nat} {L : Nat} {xs : Nat → Int32} {k : Int} (hlf : l.stackTraces = false) (C0 : lw_At p s m meth c b L xs) (hL : L ≤ 256) (hk : 0 ≤ k ∧ 4 * k + 4 ≤ (L : Int)) (hK : va_K (dC, dI) kxCl (lT cI cB cE cL cs) s) (kk : LW p l e s m below meth c b dC dI cI cB cE cL cs mo ma ou xr k (k + 1) 689) : LW p l e s m below meth c b dC dI cI cB cE cL cs mo ma ou xr k k 108 := by
  obtain ⟨hx, hb, hr, hml, hown, hts0, hX, hbl, hlocks, hgv⟩ := id C0
  have hown : s.vm.findClass RL = some m.cls := hown
  have hA : ∀ q : Nat, s.heap.size ≤ q → (fun q : Nat => s.heap.size ≤ q) q := fun _ h => h
  have hbA : ¬ (fun q : Nat => s.heap.size ≤ q) b := Nat.not_le.mpr hbl
  have hG : kx_G s := ⟨s, _, hts0, hgv, State.WarmedH.refl s⟩
  have hZ : kx_Z (fun q : Nat => s.heap.size ≤ q) s s.heap := law_Z hts0 hgv
  have hts := kx_hts (a := #[Value.ref b]) hG
  intro o r n z F G N Eo Er En Ez EF fo I Fm H locs cells slots ls hxr hok hxG hPE hI hR hP hD hS hcl hsl hl
  subst hxr
  obtain ⟨hN1, hN2, hN3, hN4⟩ := id hxG
  have hz78 := hR.2.1
  have hk64 := hI.2.1.1
  have hk01 : 0 ≤ k ∧ k < 64 := by omega
  obtain ⟨a1, ea1, a1l, a1h⟩ := iz_of (xs (iz (4 * k + 1)).toNatClampNeg)
  obtain ⟨a2, ea2, a2l, a2h⟩ := iz_of (xs (iz (4 * k + 2)).toNatClampNeg)
  obtain ⟨a3, ea3, a3l, a3h⟩ := iz_of (xs (iz (4 * k + 3)).toNatClampNeg)
  refine lv_aload_n hx hb dL_law_108 rfl (lv_at hl 3 rfl) ?_
  refine lv_aload_n hx hb dL_law_109 rfl (lv_at hl 4 rfl) ?_
  refine lv_iload hx hb dL_law_110 (lv_at hl 0 rfl) ?_
  refine lv_iconst (v := iz 1) hx hb dL_law_112 (by decide) ?_
  refine ki_iadd hx hb dL_law_113 ?_
  refine va_sld hx hb hX hbl hbA hS (iz_in (by omega) (by omega) (by omega)) dL_law_114 ?_
  refine ki_is ea1 ?_
  refine lv_aload_n hx hb dL_law_115 rfl (lv_at hl 4 rfl) ?_
  refine lv_iload hx hb dL_law_116 (lv_at hl 0 rfl) ?_
  refine lv_iconst (v := iz 2) hx hb dL_law_118 (by decide) ?_
  refine ki_iadd hx hb dL_law_119 ?_
  refine va_sld hx hb hX hbl hbA hS (iz_in (by omega) (by omega) (by omega)) dL_law_120 ?_
  refine ki_is ea2 ?_
  refine lv_aload_n hx hb dL_law_121 rfl (lv_at hl 1 rfl) ?_
  have hPc : va_P (dC, dI) kxCl ((xU cI cB cE o r n z F G (Eo 0 0) ++ [(ou, .inl (cL, 1, .inr (.inl fo)))]) ++ eP cI N Eo Er En Ez EF) H := va_P.part (cx := xU cI cB cE o r n z F G (Eo 0 0) ++ [(ou, .inl (cL, 1, .inr (.inl fo)))]) hP [0, 1, 2, 3, 4, 5, 6, 7, 8, 9, 10, 11, 12, 13, 14, 15, 16, 17, 18, 19, 20, 21, 22, 23, 24, 25, 26, 27, 28, 58] rfl
  have hDc : va_D (fun q : Nat => s.heap.size ≤ q) ((xU cI cB cE o r n z F G (Eo 0 0) ++ [(ou, .inl (cL, 1, .inr (.inl fo)))]) ++ eP cI N Eo Er En Ez EF) := va_D.part (cx := xU cI cB cE o r n z F G (Eo 0 0) ++ [(ou, .inl (cL, 1, .inr (.inl fo)))]) hD [0, 1, 2, 3, 4, 5, 6, 7, 8, 9, 10, 11, 12, 13, 14, 15, 16, 17, 18, 19, 20, 21, 22, 23, 24, 25, 26, 27, 28, 58] lq_0 rfl
  have hFc := va_freeP (cx := xU cI cB cE o r n z F G (Eo 0 0) ++ [(ou, .inl (cL, 1, .inr (.inl fo)))]) hD hS hA [0, 1, 2, 3, 4, 5, 6, 7, 8, 9, 10, 11, 12, 13, 14, 15, 16, 17, 18, 19, 20, 21, 22, 23, 24, 25, 26, 27, 28, 58] rfl
  have hKc := hK.sub (tys' := [(cI, .int), (cB, .byte), (cE, .object RX0), (cL, .long)]) [0, 1, 2, 31] rfl
  refine xk_call (vx_runSW (As := [.ref (o 15), .int (iz a1), .int (iz a2), .ref ou]) (rest := []) ⟨hx, hb, hml, hown, hts⟩ (h_entry l hlf dC dI cI cB cE cL o r n z F G N Eo Er En Ez EF ou fo a1 a2 H.size hok hxG hPE (by omega) (by omega) (by omega) (by omega) (by omega)) (vx_cwSW 4 hts (kx_gS kq_27_law_0 kq_27_law_1 kq_27_law_2 kq_25_xhelp_0 rfl) rfl rfl rfl (by decide +kernel) ⟨Nat.le_of_ble_eq_true rfl, Nat.le_of_ble_eq_true rfl⟩) ⟨kx_blind, kx_give (ws := []) (tys := []) hPc hDc hKc hG hZ hS hFc⟩ rfl rfl hl.1 rfl (lv_room (Nat.le_of_ble_eq_true rfl)) dL_law_122 ⟨show cells + 60 ≤ 600384 from (by omega), show slots + 200 ≤ 7291369 from (by omega)⟩) hS (fun q _ h => hFc q h) hFc (fun u dn9 dm9 t H1 locs ht hvm hq hB hk1 hS => ?_)
  obtain ⟨q9, fo9, o9, r9, n9, z9, F9, G9, N9, Eo9, Er9, En9, Ez9, EF9⟩ := u
  obtain ⟨hP1, hK1, hD1⟩ := hB
  rw [ht] at hP1
  try dsimp only at hq
  obtain ⟨hP, hD⟩ := va_joinP (wr := mW mo ma cs I Fm) (rx := xU cI cB cE o9 r9 n9 z9 F9 G9 (Eo9 0 0) ++ [(ou, .inl (cL, 1, .inr (.inl fo9)))]) (pl1 := eP cI N9 Eo9 Er9 En9 Ez9 EF9) hP hD [0, 1, 2, 3, 4, 5, 6, 7, 8, 9, 10, 11, 12, 13, 14, 15, 16, 17, 18, 19, 20, 21, 22, 23, 24, 25, 26, 27, 28, 58] [29, 30, 31, 32, 33, 34, 35, 36, 37, 38, 39, 40, 41, 42, 43, 44, 45, 46, 47, 48, 49, 50, 51, 52, 53, 54, 55, 56, 57] rfl rfl lq_1 lq_2 hk1 hFc hP1 hD1
  generalize H1 = H at hP hS ⊢
  have hP : va_P (dC, dI) kxCl (((xU cI cB cE o9 r9 n9 z9 F9 G9 (Eo9 0 0) ++ mW mo ma cs I Fm) ++ [(ou, .inl (cL, 1, .inr (.inl fo9)))]) ++ eP cI N9 Eo9 Er9 En9 Ez9 EF9) H := va_P.part (cx := ((xU cI cB cE o9 r9 n9 z9 F9 G9 (Eo9 0 0) ++ mW mo ma cs I Fm) ++ [(ou, .inl (cL, 1, .inr (.inl fo9)))])) hP [29, 30, 31, 32, 33, 34, 35, 36, 37, 38, 39, 40, 41, 42, 43, 44, 45, 46, 47, 48, 49, 50, 51, 52, 53, 54, 55, 56, 57, 0, 1, 2, 3, 4, 5, 6, 7, 8, 9, 10, 11, 12, 13, 14, 15, 16, 17, 18, 19, 20, 21, 22, 23, 24, 25, 26, 27, 28, 58] rfl
  have hD : va_D (fun q : Nat => s.heap.size ≤ q) (((xU cI cB cE o9 r9 n9 z9 F9 G9 (Eo9 0 0) ++ mW mo ma cs I Fm) ++ [(ou, .inl (cL, 1, .inr (.inl fo9)))]) ++ eP cI N9 Eo9 Er9 En9 Ez9 EF9) := va_D.part (cx := ((xU cI cB cE o9 r9 n9 z9 F9 G9 (Eo9 0 0) ++ mW mo ma cs I Fm) ++ [(ou, .inl (cL, 1, .inr (.inl fo9)))])) hD [29, 30, 31, 32, 33, 34, 35, 36, 37, 38, 39, 40, 41, 42, 43, 44, 45, 46, 47, 48, 49, 50, 51, 52, 53, 54, 55, 56, 57, 0, 1, 2, 3, 4, 5, 6, 7, 8, 9, 10, 11, 12, 13, 14, 15, 16, 17, 18, 19, 20, 21, 22, 23, 24, 25, 26, 27, 28, 58] lq_3 rfl
  obtain ⟨hok9, hxG9, hPE9, hcost, ho9, hrel⟩ := hq
  have hrelF := fun (_ : Unit) => hrel
  clear hrel
  have hlc := lcC hcl (Nat.le_trans hcost.1 (by decide)) hk01
  have hls := lcS hsl (Nat.le_trans hcost.2 (by decide)) hk01
  refine W.eq (g2 := F0 m 125 ls [.int (iz q9)]) rfl ?_
  refine lv_istore (lv' := [(5, .int (iz q9)), (4, .int (iz (4 * k))), (3, .ref ou), (2, .ref mo), (1, .ref (o 15)), (0, .ref b)]) hx hb dL_law_125 hl (by decide) rfl (fun ls hl => ?_)
  refine lv_aload_n hx hb dL_law_127 rfl (lv_at hl 3 rfl) ?_
  refine lv_aload_n hx hb dL_law_128 rfl (lv_at hl 5 rfl) ?_
  refine lv_iload hx hb dL_law_129 (lv_at hl 1 rfl) ?_
  refine lv_iconst (v := iz 1) hx hb dL_law_131 (by decide) ?_
  refine ki_iadd hx hb dL_law_132 ?_
  refine va_sld hx hb hX hbl hbA hS (iz_in (by omega) (by omega) (by omega)) dL_law_133 ?_
  refine ki_is ea1 ?_
  refine lv_aload_n hx hb dL_law_134 rfl (lv_at hl 5 rfl) ?_
  refine lv_iload hx hb dL_law_135 (lv_at hl 1 rfl) ?_
  refine lv_iconst (v := iz 2) hx hb dL_law_137 (by decide) ?_
  refine ki_iadd hx hb dL_law_138 ?_
  refine va_sld hx hb hX hbl hbA hS (iz_in (by omega) (by omega) (by omega)) dL_law_139 ?_
  refine ki_is ea2 ?_
  have hPc := hP.sub (ws' := mW mo ma cs I Fm) [29, 30, 31, 32, 33, 34, 35, 36, 37, 38, 39, 40, 41, 42, 43, 44, 45, 46, 47, 48, 49, 50, 51, 52, 53, 54, 55, 56, 57] rfl
  have hDc := hD.sub (ws' := mW mo ma cs I Fm) [29, 30, 31, 32, 33, 34, 35, 36, 37, 38, 39, 40, 41, 42, 43, 44, 45, 46, 47, 48, 49, 50, 51, 52, 53, 54, 55, 56, 57] lq_1 rfl
  have hFc := va_free (wc := mW mo ma cs I Fm) hD hS hA [29, 30, 31, 32, 33, 34, 35, 36, 37, 38, 39, 40, 41, 42, 43, 44, 45, 46, 47, 48, 49, 50, 51, 52, 53, 54, 55, 56, 57] rfl
  have hKc := hK.sub (tys' := mT cs) [3, 4, 5, 6, 7, 8, 9, 10, 11, 12, 13, 14, 15, 16, 17, 18, 19, 20, 21, 22, 23, 24, 25, 26, 27, 28, 29, 30] rfl
  refine va_calli (va_runV (As := [.int (iz a1), .int (iz a2)]) (rest := []) ⟨hx, hb, hml, hown, hts⟩ (k_entry l dC dI mo ma cs I Fm a1 a2 H.size hI.1.hB hI.1.hc (by omega) (by omega) (by omega) (by omega)) (cwV 2 hts (kx_gV kq_27_law_3 kq_27_law_4 kq_27_law_5 kq_04_msmall_6 kq_27_law_6 rfl) rfl rfl rfl (by decide +kernel) ⟨Nat.le_of_ble_eq_true rfl, Nat.le_of_ble_eq_true rfl⟩) ⟨kx_blind, va_recv hKc hPc (ci := 6) (q0 := 0) rfl rfl, kx_give (ws := []) (tys := []) hPc hDc hKc hG hZ hS hFc⟩ rfl rfl hl.1 rfl (lv_room (Nat.le_of_ble_eq_true rfl)) dL_law_140 ⟨show (cells + dn9) + 0 ≤ 600384 from (Nat.le_trans hlc.2 (by decide)), show (slots + dm9) + 0 ≤ 7291369 from (Nat.le_trans hls.2 (by decide))⟩) hS (fun q _ h => hFc q h) hFc (fun r u t H1 locs ht hvm hw hB hz1 hk1 hS => ?_)
  obtain ⟨rr1, J1, G1m⟩ := u
  obtain ⟨hP1, hK1, hD1⟩ := hB
  rw [ht] at hP1
  obtain ⟨e1, hw⟩ := hw
  subst e1
  try dsimp only at hw
  obtain ⟨hP, hD⟩ := va_joinQ (wr := xU cI cB cE o9 r9 n9 z9 F9 G9 (Eo9 0 0) ++ [(ou, .inl (cL, 1, .inr (.inl fo9)))]) (w1 := mW mo ma cs J1 G1m) hP hD [29, 30, 31, 32, 33, 34, 35, 36, 37, 38, 39, 40, 41, 42, 43, 44, 45, 46, 47, 48, 49, 50, 51, 52, 53, 54, 55, 56, 57] [0, 1, 2, 3, 4, 5, 6, 7, 8, 9, 10, 11, 12, 13, 14, 15, 16, 17, 18, 19, 20, 21, 22, 23, 24, 25, 26, 27, 28, 58] rfl rfl lq_0 lq_4 hk1 hFc hP1 hD1
  generalize H1 = H at hP hS ⊢
  have hP : va_P (dC, dI) kxCl (((xU cI cB cE o9 r9 n9 z9 F9 G9 (Eo9 0 0) ++ mW mo ma cs J1 G1m) ++ [(ou, .inl (cL, 1, .inr (.inl fo9)))]) ++ eP cI N9 Eo9 Er9 En9 Ez9 EF9) H := va_P.part (cx := ((xU cI cB cE o9 r9 n9 z9 F9 G9 (Eo9 0 0) ++ mW mo ma cs J1 G1m) ++ [(ou, .inl (cL, 1, .inr (.inl fo9)))])) hP [0, 1, 2, 3, 4, 5, 6, 7, 8, 9, 10, 11, 12, 13, 14, 15, 16, 17, 18, 19, 20, 21, 22, 23, 24, 25, 26, 27, 28, 30, 31, 32, 33, 34, 35, 36, 37, 38, 39, 40, 41, 42, 43, 44, 45, 46, 47, 48, 49, 50, 51, 52, 53, 54, 55, 56, 57, 58, 29] rfl
  have hD : va_D (fun q : Nat => s.heap.size ≤ q) (((xU cI cB cE o9 r9 n9 z9 F9 G9 (Eo9 0 0) ++ mW mo ma cs J1 G1m) ++ [(ou, .inl (cL, 1, .inr (.inl fo9)))]) ++ eP cI N9 Eo9 Er9 En9 Ez9 EF9) := va_D.part (cx := ((xU cI cB cE o9 r9 n9 z9 F9 G9 (Eo9 0 0) ++ mW mo ma cs J1 G1m) ++ [(ou, .inl (cL, 1, .inr (.inl fo9)))])) hD [0, 1, 2, 3, 4, 5, 6, 7, 8, 9, 10, 11, 12, 13, 14, 15, 16, 17, 18, 19, 20, 21, 22, 23, 24, 25, 26, 27, 28, 30, 31, 32, 33, 34, 35, 36, 37, 38, 39, 40, 41, 42, 43, 44, 45, 46, 47, 48, 49, 50, 51, 52, 53, 54, 55, 56, 57, 58, 29] lq_5 rfl
  obtain ⟨hcode, hans, hR9, hI9⟩ := st_entry hI hk01.2 hR hxG.2.2.1 (hrelF ()) hw
  refine W.eq (g2 := F0 m 143 ls [.int (iz rr1)]) rfl ?_
  have hbq := hI9.1.hB.1 0
  refine lv_istore (lv' := [(6, .int (iz rr1)), (5, .int (iz q9)), (4, .int (iz (4 * k))), (3, .ref ou), (2, .ref mo), (1, .ref (o 15)), (0, .ref b)]) hx hb dL_law_143 hl (by decide) rfl (fun ls hl => ?_)
  refine lv_goto (tgt := 689) hx hb dL_law_145 (by decide) ?_
  exact kk o9 r9 n9 z9 F9 G9 N9 Eo9 Er9 En9 Ez9 EF9 fo9 J1 G1m H _ _ _ ls (ho9 15 (by decide) (by decide)) hok9 hxG9 hPE9 hI9 hR9 hP hD hS hlc.1 hls.1 (lv_sub hl [2, 3, 4, 5, 6] rfl)
set_option maxHeartbeats 4000000 in
set_option maxRecDepth 100000 in
theorem law_sign {p : Program} {l : Launch} {e : Env} {s : State} {m : MethodId} {below : List Frame} {meth : Method} {c : Code} {b : Nat} {dC : Nat → ClassId} {dI : Nat → Nat → Nat} {cI cB cE cL : ClassId} {cs : Nat → ClassId} {mo : Nat} {ma : Nat → Nat} {ou xr : Nat} {L : Nat} {xs : Nat → Int32} {k : Int} (hlf : l.stackTraces = false) (C0 : lw_At p s m meth c b L xs) (hL : L ≤ 256) (hk : 0 ≤ k ∧ 4 * k + 4 ≤ (L : Int)) (hK : va_K (dC, dI) kxCl (lT cI cB cE cL cs) s) (kk : LW p l e s m below meth c b dC dI cI cB cE cL cs mo ma ou xr k (k + 1) 689) : LW p l e s m below meth c b dC dI cI cB cE cL cs mo ma ou xr k k 148 := by
  obtain ⟨hx, hb, hr, hml, hown, hts0, hX, hbl, hlocks, hgv⟩ := id C0
  have hown : s.vm.findClass RL = some m.cls := hown
  have hA : ∀ q : Nat, s.heap.size ≤ q → (fun q : Nat => s.heap.size ≤ q) q := fun _ h => h
  have hbA : ¬ (fun q : Nat => s.heap.size ≤ q) b := Nat.not_le.mpr hbl
  have hG : kx_G s := ⟨s, _, hts0, hgv, State.WarmedH.refl s⟩
  have hZ : kx_Z (fun q : Nat => s.heap.size ≤ q) s s.heap := law_Z hts0 hgv
  have hts := kx_hts (a := #[Value.ref b]) hG
  intro o r n z F G N Eo Er En Ez EF fo I Fm H locs cells slots ls hxr hok hxG hPE hI hR hP hD hS hcl hsl hl
  subst hxr
  obtain ⟨hN1, hN2, hN3, hN4⟩ := id hxG
  have hz78 := hR.2.1
  have hk64 := hI.2.1.1
  have hk01 : 0 ≤ k ∧ k < 64 := by omega
  obtain ⟨a1, ea1, a1l, a1h⟩ := iz_of (xs (iz (4 * k + 1)).toNatClampNeg)
  obtain ⟨a2, ea2, a2l, a2h⟩ := iz_of (xs (iz (4 * k + 2)).toNatClampNeg)
  obtain ⟨a3, ea3, a3l, a3h⟩ := iz_of (xs (iz (4 * k + 3)).toNatClampNeg)
  refine lv_aload_n hx hb dL_law_148 rfl (lv_at hl 3 rfl) ?_
  refine lv_aload_n hx hb dL_law_149 rfl (lv_at hl 4 rfl) ?_
  refine lv_iload hx hb dL_law_150 (lv_at hl 0 rfl) ?_
  refine lv_iconst (v := iz 1) hx hb dL_law_152 (by decide) ?_
  refine ki_iadd hx hb dL_law_153 ?_
  refine va_sld hx hb hX hbl hbA hS (iz_in (by omega) (by omega) (by omega)) dL_law_154 ?_
  refine ki_is ea1 ?_
  refine lv_aload_n hx hb dL_law_155 rfl (lv_at hl 4 rfl) ?_
  refine lv_iload hx hb dL_law_156 (lv_at hl 0 rfl) ?_
  refine lv_iconst (v := iz 2) hx hb dL_law_158 (by decide) ?_
  refine ki_iadd hx hb dL_law_159 ?_
  refine va_sld hx hb hX hbl hbA hS (iz_in (by omega) (by omega) (by omega)) dL_law_160 ?_
  refine ki_is ea2 ?_
  refine lv_aload_n hx hb dL_law_161 rfl (lv_at hl 1 rfl) ?_
  have hPc : va_P (dC, dI) kxCl ((xU cI cB cE o r n z F G (Eo 0 0) ++ [(ou, .inl (cL, 1, .inr (.inl fo)))]) ++ eP cI N Eo Er En Ez EF) H := va_P.part (cx := xU cI cB cE o r n z F G (Eo 0 0) ++ [(ou, .inl (cL, 1, .inr (.inl fo)))]) hP [0, 1, 2, 3, 4, 5, 6, 7, 8, 9, 10, 11, 12, 13, 14, 15, 16, 17, 18, 19, 20, 21, 22, 23, 24, 25, 26, 27, 28, 58] rfl
  have hDc : va_D (fun q : Nat => s.heap.size ≤ q) ((xU cI cB cE o r n z F G (Eo 0 0) ++ [(ou, .inl (cL, 1, .inr (.inl fo)))]) ++ eP cI N Eo Er En Ez EF) := va_D.part (cx := xU cI cB cE o r n z F G (Eo 0 0) ++ [(ou, .inl (cL, 1, .inr (.inl fo)))]) hD [0, 1, 2, 3, 4, 5, 6, 7, 8, 9, 10, 11, 12, 13, 14, 15, 16, 17, 18, 19, 20, 21, 22, 23, 24, 25, 26, 27, 28, 58] lq_0 rfl
  have hFc := va_freeP (cx := xU cI cB cE o r n z F G (Eo 0 0) ++ [(ou, .inl (cL, 1, .inr (.inl fo)))]) hD hS hA [0, 1, 2, 3, 4, 5, 6, 7, 8, 9, 10, 11, 12, 13, 14, 15, 16, 17, 18, 19, 20, 21, 22, 23, 24, 25, 26, 27, 28, 58] rfl
  have hKc := hK.sub (tys' := [(cI, .int), (cB, .byte), (cE, .object RX0), (cL, .long)]) [0, 1, 2, 31] rfl
  refine xk_call (vx_runSW (As := [.ref (o 15), .int (iz a1), .int (iz a2), .ref ou]) (rest := []) ⟨hx, hb, hml, hown, hts⟩ (h_sign l hlf dC dI cI cB cE cL o r n z F G N Eo Er En Ez EF ou fo a1 a2 H.size hok hxG hPE (by omega) (by omega) (by omega) (by omega)) (vx_cwSW 4 hts (kx_gS kq_27_law_7 kq_27_law_8 kq_27_law_2 kq_25_xhelp_9 rfl) rfl rfl rfl (by decide +kernel) ⟨Nat.le_of_ble_eq_true rfl, Nat.le_of_ble_eq_true rfl⟩) ⟨kx_blind, kx_give (ws := []) (tys := []) hPc hDc hKc hG hZ hS hFc⟩ rfl rfl hl.1 rfl (lv_room (Nat.le_of_ble_eq_true rfl)) dL_law_162 ⟨show cells + 200 ≤ 600384 from (by omega), show slots + 60000 ≤ 7291369 from (by omega)⟩) hS (fun q _ h => hFc q h) hFc (fun u dn9 dm9 t H1 locs ht hvm hq hB hk1 hS => ?_)
  obtain ⟨q9, fo9, o9, r9, n9, z9, F9, G9, N9, Eo9, Er9, En9, Ez9, EF9⟩ := u
  obtain ⟨hP1, hK1, hD1⟩ := hB
  rw [ht] at hP1
  try dsimp only at hq
  obtain ⟨hP, hD⟩ := va_joinP (wr := mW mo ma cs I Fm) (rx := xU cI cB cE o9 r9 n9 z9 F9 G9 (Eo9 0 0) ++ [(ou, .inl (cL, 1, .inr (.inl fo9)))]) (pl1 := eP cI N9 Eo9 Er9 En9 Ez9 EF9) hP hD [0, 1, 2, 3, 4, 5, 6, 7, 8, 9, 10, 11, 12, 13, 14, 15, 16, 17, 18, 19, 20, 21, 22, 23, 24, 25, 26, 27, 28, 58] [29, 30, 31, 32, 33, 34, 35, 36, 37, 38, 39, 40, 41, 42, 43, 44, 45, 46, 47, 48, 49, 50, 51, 52, 53, 54, 55, 56, 57] rfl rfl lq_1 lq_2 hk1 hFc hP1 hD1
  generalize H1 = H at hP hS ⊢
  have hP : va_P (dC, dI) kxCl (((xU cI cB cE o9 r9 n9 z9 F9 G9 (Eo9 0 0) ++ mW mo ma cs I Fm) ++ [(ou, .inl (cL, 1, .inr (.inl fo9)))]) ++ eP cI N9 Eo9 Er9 En9 Ez9 EF9) H := va_P.part (cx := ((xU cI cB cE o9 r9 n9 z9 F9 G9 (Eo9 0 0) ++ mW mo ma cs I Fm) ++ [(ou, .inl (cL, 1, .inr (.inl fo9)))])) hP [29, 30, 31, 32, 33, 34, 35, 36, 37, 38, 39, 40, 41, 42, 43, 44, 45, 46, 47, 48, 49, 50, 51, 52, 53, 54, 55, 56, 57, 0, 1, 2, 3, 4, 5, 6, 7, 8, 9, 10, 11, 12, 13, 14, 15, 16, 17, 18, 19, 20, 21, 22, 23, 24, 25, 26, 27, 28, 58] rfl
  have hD : va_D (fun q : Nat => s.heap.size ≤ q) (((xU cI cB cE o9 r9 n9 z9 F9 G9 (Eo9 0 0) ++ mW mo ma cs I Fm) ++ [(ou, .inl (cL, 1, .inr (.inl fo9)))]) ++ eP cI N9 Eo9 Er9 En9 Ez9 EF9) := va_D.part (cx := ((xU cI cB cE o9 r9 n9 z9 F9 G9 (Eo9 0 0) ++ mW mo ma cs I Fm) ++ [(ou, .inl (cL, 1, .inr (.inl fo9)))])) hD [29, 30, 31, 32, 33, 34, 35, 36, 37, 38, 39, 40, 41, 42, 43, 44, 45, 46, 47, 48, 49, 50, 51, 52, 53, 54, 55, 56, 57, 0, 1, 2, 3, 4, 5, 6, 7, 8, 9, 10, 11, 12, 13, 14, 15, 16, 17, 18, 19, 20, 21, 22, 23, 24, 25, 26, 27, 28, 58] lq_3 rfl
  obtain ⟨hok9, hxG9, hPE9, hcost, ho9, hrel⟩ := hq
  have hrelF := fun (_ : Unit) => hrel
  clear hrel
  have hlc := lcC hcl (Nat.le_trans hcost.1 (by decide)) hk01
  have hls := lcS hsl (Nat.le_trans hcost.2 (by decide)) hk01
  refine W.eq (g2 := F0 m 165 ls [.int (iz q9)]) rfl ?_
  refine lv_istore (lv' := [(5, .int (iz q9)), (4, .int (iz (4 * k))), (3, .ref ou), (2, .ref mo), (1, .ref (o 15)), (0, .ref b)]) hx hb dL_law_165 hl (by decide) rfl (fun ls hl => ?_)
  refine lv_aload_n hx hb dL_law_167 rfl (lv_at hl 3 rfl) ?_
  refine lv_aload_n hx hb dL_law_168 rfl (lv_at hl 5 rfl) ?_
  refine lv_iload hx hb dL_law_169 (lv_at hl 1 rfl) ?_
  refine lv_iconst (v := iz 1) hx hb dL_law_171 (by decide) ?_
  refine ki_iadd hx hb dL_law_172 ?_
  refine va_sld hx hb hX hbl hbA hS (iz_in (by omega) (by omega) (by omega)) dL_law_173 ?_
  refine ki_is ea1 ?_
  refine lv_aload_n hx hb dL_law_174 rfl (lv_at hl 5 rfl) ?_
  refine lv_iload hx hb dL_law_175 (lv_at hl 1 rfl) ?_
  refine lv_iconst (v := iz 2) hx hb dL_law_177 (by decide) ?_
  refine ki_iadd hx hb dL_law_178 ?_
  refine va_sld hx hb hX hbl hbA hS (iz_in (by omega) (by omega) (by omega)) dL_law_179 ?_
  refine ki_is ea2 ?_
  have hPc := hP.sub (ws' := mW mo ma cs I Fm) [29, 30, 31, 32, 33, 34, 35, 36, 37, 38, 39, 40, 41, 42, 43, 44, 45, 46, 47, 48, 49, 50, 51, 52, 53, 54, 55, 56, 57] rfl
  have hDc := hD.sub (ws' := mW mo ma cs I Fm) [29, 30, 31, 32, 33, 34, 35, 36, 37, 38, 39, 40, 41, 42, 43, 44, 45, 46, 47, 48, 49, 50, 51, 52, 53, 54, 55, 56, 57] lq_1 rfl
  have hFc := va_free (wc := mW mo ma cs I Fm) hD hS hA [29, 30, 31, 32, 33, 34, 35, 36, 37, 38, 39, 40, 41, 42, 43, 44, 45, 46, 47, 48, 49, 50, 51, 52, 53, 54, 55, 56, 57] rfl
  have hKc := hK.sub (tys' := mT cs) [3, 4, 5, 6, 7, 8, 9, 10, 11, 12, 13, 14, 15, 16, 17, 18, 19, 20, 21, 22, 23, 24, 25, 26, 27, 28, 29, 30] rfl
  refine va_calli (va_runV (As := [.int (iz a1), .int (iz a2)]) (rest := []) ⟨hx, hb, hml, hown, hts⟩ (k_sign l dC dI mo ma cs I Fm a1 a2 H.size hI.1.hB hI.1.hc hI.1.hn (by omega) (by omega) (by omega) (by omega)) (cwV 2 hts (kx_gV kq_27_law_9 kq_27_law_10 kq_27_law_11 kq_04_msmall_6 kq_27_law_12 rfl) rfl rfl rfl (by decide +kernel) ⟨Nat.le_of_ble_eq_true rfl, Nat.le_of_ble_eq_true rfl⟩) ⟨kx_blind, va_recv hKc hPc (ci := 6) (q0 := 0) rfl rfl, kx_give (ws := []) (tys := []) hPc hDc hKc hG hZ hS hFc⟩ rfl rfl hl.1 rfl (lv_room (Nat.le_of_ble_eq_true rfl)) dL_law_180 ⟨show (cells + dn9) + 0 ≤ 600384 from (Nat.le_trans hlc.2 (by decide)), show (slots + dm9) + 0 ≤ 7291369 from (Nat.le_trans hls.2 (by decide))⟩) hS (fun q _ h => hFc q h) hFc (fun r u t H1 locs ht hvm hw hB hz1 hk1 hS => ?_)
  obtain ⟨rr1, J1, G1m⟩ := u
  obtain ⟨hP1, hK1, hD1⟩ := hB
  rw [ht] at hP1
  obtain ⟨e1, hw⟩ := hw
  subst e1
  try dsimp only at hw
  obtain ⟨hP, hD⟩ := va_joinQ (wr := xU cI cB cE o9 r9 n9 z9 F9 G9 (Eo9 0 0) ++ [(ou, .inl (cL, 1, .inr (.inl fo9)))]) (w1 := mW mo ma cs J1 G1m) hP hD [29, 30, 31, 32, 33, 34, 35, 36, 37, 38, 39, 40, 41, 42, 43, 44, 45, 46, 47, 48, 49, 50, 51, 52, 53, 54, 55, 56, 57] [0, 1, 2, 3, 4, 5, 6, 7, 8, 9, 10, 11, 12, 13, 14, 15, 16, 17, 18, 19, 20, 21, 22, 23, 24, 25, 26, 27, 28, 58] rfl rfl lq_0 lq_4 hk1 hFc hP1 hD1
  generalize H1 = H at hP hS ⊢
  have hP : va_P (dC, dI) kxCl (((xU cI cB cE o9 r9 n9 z9 F9 G9 (Eo9 0 0) ++ mW mo ma cs J1 G1m) ++ [(ou, .inl (cL, 1, .inr (.inl fo9)))]) ++ eP cI N9 Eo9 Er9 En9 Ez9 EF9) H := va_P.part (cx := ((xU cI cB cE o9 r9 n9 z9 F9 G9 (Eo9 0 0) ++ mW mo ma cs J1 G1m) ++ [(ou, .inl (cL, 1, .inr (.inl fo9)))])) hP [0, 1, 2, 3, 4, 5, 6, 7, 8, 9, 10, 11, 12, 13, 14, 15, 16, 17, 18, 19, 20, 21, 22, 23, 24, 25, 26, 27, 28, 30, 31, 32, 33, 34, 35, 36, 37, 38, 39, 40, 41, 42, 43, 44, 45, 46, 47, 48, 49, 50, 51, 52, 53, 54, 55, 56, 57, 58, 29] rfl
  have hD : va_D (fun q : Nat => s.heap.size ≤ q) (((xU cI cB cE o9 r9 n9 z9 F9 G9 (Eo9 0 0) ++ mW mo ma cs J1 G1m) ++ [(ou, .inl (cL, 1, .inr (.inl fo9)))]) ++ eP cI N9 Eo9 Er9 En9 Ez9 EF9) := va_D.part (cx := ((xU cI cB cE o9 r9 n9 z9 F9 G9 (Eo9 0 0) ++ mW mo ma cs J1 G1m) ++ [(ou, .inl (cL, 1, .inr (.inl fo9)))])) hD [0, 1, 2, 3, 4, 5, 6, 7, 8, 9, 10, 11, 12, 13, 14, 15, 16, 17, 18, 19, 20, 21, 22, 23, 24, 25, 26, 27, 28, 30, 31, 32, 33, 34, 35, 36, 37, 38, 39, 40, 41, 42, 43, 44, 45, 46, 47, 48, 49, 50, 51, 52, 53, 54, 55, 56, 57, 58, 29] lq_5 rfl
  obtain ⟨hcode, hans, hR9, hI9⟩ := st_sign hI hk01.2 hR (hrelF ()) hw
  refine W.eq (g2 := F0 m 183 ls [.int (iz rr1)]) rfl ?_
  have hbq := hI9.1.hB.1 0
  refine lv_istore (lv' := [(6, .int (iz rr1)), (5, .int (iz q9)), (4, .int (iz (4 * k))), (3, .ref ou), (2, .ref mo), (1, .ref (o 15)), (0, .ref b)]) hx hb dL_law_183 hl (by decide) rfl (fun ls hl => ?_)
  refine lv_goto (tgt := 689) hx hb dL_law_185 (by decide) ?_
  exact kk o9 r9 n9 z9 F9 G9 N9 Eo9 Er9 En9 Ez9 EF9 fo9 J1 G1m H _ _ _ ls (ho9 15 (by decide) (by decide)) hok9 hxG9 hPE9 hI9 hR9 hP hD hS hlc.1 hls.1 (lv_sub hl [2, 3, 4, 5, 6] rfl)
set_option maxHeartbeats 4000000 in
set_option maxRecDepth 100000 in
theorem law_page {p : Program} {l : Launch} {e : Env} {s : State} {m : MethodId} {below : List Frame} {meth : Method} {c : Code} {b : Nat} {dC : Nat → ClassId} {dI : Nat → Nat → Nat} {cI cB cE cL : ClassId} {cs : Nat → ClassId} {mo : Nat} {ma : Nat → Nat} {ou xr : Nat} {L : Nat} {xs : Nat → Int32} {k : Int} (hlf : l.stackTraces = false) (C0 : lw_At p s m meth c b L xs) (hL : L ≤ 256) (hk : 0 ≤ k ∧ 4 * k + 4 ≤ (L : Int)) (hK : va_K (dC, dI) kxCl (lT cI cB cE cL cs) s) (kk : LW p l e s m below meth c b dC dI cI cB cE cL cs mo ma ou xr k (k + 1) 689) : LW p l e s m below meth c b dC dI cI cB cE cL cs mo ma ou xr k k 188 := by
  obtain ⟨hx, hb, hr, hml, hown, hts0, hX, hbl, hlocks, hgv⟩ := id C0
  have hown : s.vm.findClass RL = some m.cls := hown
  have hA : ∀ q : Nat, s.heap.size ≤ q → (fun q : Nat => s.heap.size ≤ q) q := fun _ h => h
  have hbA : ¬ (fun q : Nat => s.heap.size ≤ q) b := Nat.not_le.mpr hbl
  have hG : kx_G s := ⟨s, _, hts0, hgv, State.WarmedH.refl s⟩
  have hZ : kx_Z (fun q : Nat => s.heap.size ≤ q) s s.heap := law_Z hts0 hgv
  have hts := kx_hts (a := #[Value.ref b]) hG
  intro o r n z F G N Eo Er En Ez EF fo I Fm H locs cells slots ls hxr hok hxG hPE hI hR hP hD hS hcl hsl hl
  subst hxr
  obtain ⟨hN1, hN2, hN3, hN4⟩ := id hxG
  have hz78 := hR.2.1
  have hk64 := hI.2.1.1
  have hk01 : 0 ≤ k ∧ k < 64 := by omega
  obtain ⟨a1, ea1, a1l, a1h⟩ := iz_of (xs (iz (4 * k + 1)).toNatClampNeg)
  obtain ⟨a2, ea2, a2l, a2h⟩ := iz_of (xs (iz (4 * k + 2)).toNatClampNeg)
  obtain ⟨a3, ea3, a3l, a3h⟩ := iz_of (xs (iz (4 * k + 3)).toNatClampNeg)
  refine lv_aload_n hx hb dL_law_188 rfl (lv_at hl 3 rfl) ?_
  refine lv_aload_n hx hb dL_law_189 rfl (lv_at hl 4 rfl) ?_
  refine lv_iload hx hb dL_law_190 (lv_at hl 0 rfl) ?_
  refine lv_iconst (v := iz 1) hx hb dL_law_192 (by decide) ?_
  refine ki_iadd hx hb dL_law_193 ?_
  refine va_sld hx hb hX hbl hbA hS (iz_in (by omega) (by omega) (by omega)) dL_law_194 ?_
  refine ki_is ea1 ?_
  refine lv_aload_n hx hb dL_law_195 rfl (lv_at hl 4 rfl) ?_
  refine lv_iload hx hb dL_law_196 (lv_at hl 0 rfl) ?_
  refine lv_iconst (v := iz 2) hx hb dL_law_198 (by decide) ?_
  refine ki_iadd hx hb dL_law_199 ?_
  refine va_sld hx hb hX hbl hbA hS (iz_in (by omega) (by omega) (by omega)) dL_law_200 ?_
  refine ki_is ea2 ?_
  refine lv_aload_n hx hb dL_law_201 rfl (lv_at hl 4 rfl) ?_
  refine lv_iload hx hb dL_law_202 (lv_at hl 0 rfl) ?_
  refine lv_iconst (v := iz 3) hx hb dL_law_204 (by decide) ?_
  refine ki_iadd hx hb dL_law_205 ?_
  refine va_sld hx hb hX hbl hbA hS (iz_in (by omega) (by omega) (by omega)) dL_law_206 ?_
  refine ki_is ea3 ?_
  refine lv_aload_n hx hb dL_law_207 rfl (lv_at hl 1 rfl) ?_
  have hPc : va_P (dC, dI) kxCl ((xU cI cB cE o r n z F G (Eo 0 0) ++ [(ou, .inl (cL, 1, .inr (.inl fo)))]) ++ eP cI N Eo Er En Ez EF) H := va_P.part (cx := xU cI cB cE o r n z F G (Eo 0 0) ++ [(ou, .inl (cL, 1, .inr (.inl fo)))]) hP [0, 1, 2, 3, 4, 5, 6, 7, 8, 9, 10, 11, 12, 13, 14, 15, 16, 17, 18, 19, 20, 21, 22, 23, 24, 25, 26, 27, 28, 58] rfl
  have hDc : va_D (fun q : Nat => s.heap.size ≤ q) ((xU cI cB cE o r n z F G (Eo 0 0) ++ [(ou, .inl (cL, 1, .inr (.inl fo)))]) ++ eP cI N Eo Er En Ez EF) := va_D.part (cx := xU cI cB cE o r n z F G (Eo 0 0) ++ [(ou, .inl (cL, 1, .inr (.inl fo)))]) hD [0, 1, 2, 3, 4, 5, 6, 7, 8, 9, 10, 11, 12, 13, 14, 15, 16, 17, 18, 19, 20, 21, 22, 23, 24, 25, 26, 27, 28, 58] lq_0 rfl
  have hFc := va_freeP (cx := xU cI cB cE o r n z F G (Eo 0 0) ++ [(ou, .inl (cL, 1, .inr (.inl fo)))]) hD hS hA [0, 1, 2, 3, 4, 5, 6, 7, 8, 9, 10, 11, 12, 13, 14, 15, 16, 17, 18, 19, 20, 21, 22, 23, 24, 25, 26, 27, 28, 58] rfl
  have hKc := hK.sub (tys' := [(cI, .int), (cB, .byte), (cE, .object RX0), (cL, .long)]) [0, 1, 2, 31] rfl
  refine xk_call (vx_runSW (As := [.ref (o 15), .int (iz a1), .int (iz a2), .int (iz a3), .ref ou]) (rest := []) ⟨hx, hb, hml, hown, hts⟩ (h_page l hlf dC dI cI cB cE cL o r n z F G N Eo Er En Ez EF ou fo a1 a2 a3 H.size hok hxG hPE (by omega) (by omega) (by omega) (by omega) (by omega) (by omega)) (vx_cwSW 5 hts (kx_gS kq_27_law_13 kq_27_law_14 kq_27_law_2 kq_25_xhelp_16 rfl) rfl rfl rfl (by decide +kernel) ⟨Nat.le_of_ble_eq_true rfl, Nat.le_of_ble_eq_true rfl⟩) ⟨kx_blind, kx_give (ws := []) (tys := []) hPc hDc hKc hG hZ hS hFc⟩ rfl rfl hl.1 rfl (lv_room (Nat.le_of_ble_eq_true rfl)) dL_law_208 ⟨show cells + 200 ≤ 600384 from (by omega), show slots + 60000 ≤ 7291369 from (by omega)⟩) hS (fun q _ h => hFc q h) hFc (fun u dn9 dm9 t H1 locs ht hvm hq hB hk1 hS => ?_)
  obtain ⟨q9, fo9, o9, r9, n9, z9, F9, G9, N9, Eo9, Er9, En9, Ez9, EF9⟩ := u
  obtain ⟨hP1, hK1, hD1⟩ := hB
  rw [ht] at hP1
  try dsimp only at hq
  obtain ⟨hP, hD⟩ := va_joinP (wr := mW mo ma cs I Fm) (rx := xU cI cB cE o9 r9 n9 z9 F9 G9 (Eo9 0 0) ++ [(ou, .inl (cL, 1, .inr (.inl fo9)))]) (pl1 := eP cI N9 Eo9 Er9 En9 Ez9 EF9) hP hD [0, 1, 2, 3, 4, 5, 6, 7, 8, 9, 10, 11, 12, 13, 14, 15, 16, 17, 18, 19, 20, 21, 22, 23, 24, 25, 26, 27, 28, 58] [29, 30, 31, 32, 33, 34, 35, 36, 37, 38, 39, 40, 41, 42, 43, 44, 45, 46, 47, 48, 49, 50, 51, 52, 53, 54, 55, 56, 57] rfl rfl lq_1 lq_2 hk1 hFc hP1 hD1
  generalize H1 = H at hP hS ⊢
  have hP : va_P (dC, dI) kxCl (((xU cI cB cE o9 r9 n9 z9 F9 G9 (Eo9 0 0) ++ mW mo ma cs I Fm) ++ [(ou, .inl (cL, 1, .inr (.inl fo9)))]) ++ eP cI N9 Eo9 Er9 En9 Ez9 EF9) H := va_P.part (cx := ((xU cI cB cE o9 r9 n9 z9 F9 G9 (Eo9 0 0) ++ mW mo ma cs I Fm) ++ [(ou, .inl (cL, 1, .inr (.inl fo9)))])) hP [29, 30, 31, 32, 33, 34, 35, 36, 37, 38, 39, 40, 41, 42, 43, 44, 45, 46, 47, 48, 49, 50, 51, 52, 53, 54, 55, 56, 57, 0, 1, 2, 3, 4, 5, 6, 7, 8, 9, 10, 11, 12, 13, 14, 15, 16, 17, 18, 19, 20, 21, 22, 23, 24, 25, 26, 27, 28, 58] rfl
  have hD : va_D (fun q : Nat => s.heap.size ≤ q) (((xU cI cB cE o9 r9 n9 z9 F9 G9 (Eo9 0 0) ++ mW mo ma cs I Fm) ++ [(ou, .inl (cL, 1, .inr (.inl fo9)))]) ++ eP cI N9 Eo9 Er9 En9 Ez9 EF9) := va_D.part (cx := ((xU cI cB cE o9 r9 n9 z9 F9 G9 (Eo9 0 0) ++ mW mo ma cs I Fm) ++ [(ou, .inl (cL, 1, .inr (.inl fo9)))])) hD [29, 30, 31, 32, 33, 34, 35, 36, 37, 38, 39, 40, 41, 42, 43, 44, 45, 46, 47, 48, 49, 50, 51, 52, 53, 54, 55, 56, 57, 0, 1, 2, 3, 4, 5, 6, 7, 8, 9, 10, 11, 12, 13, 14, 15, 16, 17, 18, 19, 20, 21, 22, 23, 24, 25, 26, 27, 28, 58] lq_3 rfl
  obtain ⟨hok9, hxG9, hPE9, hcost, ho9, hrel⟩ := hq
  have hrelF := fun (_ : Unit) => hrel
  clear hrel
  have hlc := lcC hcl (Nat.le_trans hcost.1 (by decide)) hk01
  have hls := lcS hsl (Nat.le_trans hcost.2 (by decide)) hk01
  refine W.eq (g2 := F0 m 211 ls [.int (iz q9)]) rfl ?_
  refine lv_istore (lv' := [(5, .int (iz q9)), (4, .int (iz (4 * k))), (3, .ref ou), (2, .ref mo), (1, .ref (o 15)), (0, .ref b)]) hx hb dL_law_211 hl (by decide) rfl (fun ls hl => ?_)
  refine lv_aload_n hx hb dL_law_213 rfl (lv_at hl 3 rfl) ?_
  refine lv_aload_n hx hb dL_law_214 rfl (lv_at hl 5 rfl) ?_
  refine lv_iload hx hb dL_law_215 (lv_at hl 1 rfl) ?_
  refine lv_iconst (v := iz 1) hx hb dL_law_217 (by decide) ?_
  refine ki_iadd hx hb dL_law_218 ?_
  refine va_sld hx hb hX hbl hbA hS (iz_in (by omega) (by omega) (by omega)) dL_law_219 ?_
  refine ki_is ea1 ?_
  refine lv_aload_n hx hb dL_law_220 rfl (lv_at hl 5 rfl) ?_
  refine lv_iload hx hb dL_law_221 (lv_at hl 1 rfl) ?_
  refine lv_iconst (v := iz 2) hx hb dL_law_223 (by decide) ?_
  refine ki_iadd hx hb dL_law_224 ?_
  refine va_sld hx hb hX hbl hbA hS (iz_in (by omega) (by omega) (by omega)) dL_law_225 ?_
  refine ki_is ea2 ?_
  refine lv_aload_n hx hb dL_law_226 rfl (lv_at hl 5 rfl) ?_
  refine lv_iload hx hb dL_law_227 (lv_at hl 1 rfl) ?_
  refine lv_iconst (v := iz 3) hx hb dL_law_229 (by decide) ?_
  refine ki_iadd hx hb dL_law_230 ?_
  refine va_sld hx hb hX hbl hbA hS (iz_in (by omega) (by omega) (by omega)) dL_law_231 ?_
  refine ki_is ea3 ?_
  have hPc := hP.sub (ws' := mW mo ma cs I Fm) [29, 30, 31, 32, 33, 34, 35, 36, 37, 38, 39, 40, 41, 42, 43, 44, 45, 46, 47, 48, 49, 50, 51, 52, 53, 54, 55, 56, 57] rfl
  have hDc := hD.sub (ws' := mW mo ma cs I Fm) [29, 30, 31, 32, 33, 34, 35, 36, 37, 38, 39, 40, 41, 42, 43, 44, 45, 46, 47, 48, 49, 50, 51, 52, 53, 54, 55, 56, 57] lq_1 rfl
  have hFc := va_free (wc := mW mo ma cs I Fm) hD hS hA [29, 30, 31, 32, 33, 34, 35, 36, 37, 38, 39, 40, 41, 42, 43, 44, 45, 46, 47, 48, 49, 50, 51, 52, 53, 54, 55, 56, 57] rfl
  have hKc := hK.sub (tys' := mT cs) [3, 4, 5, 6, 7, 8, 9, 10, 11, 12, 13, 14, 15, 16, 17, 18, 19, 20, 21, 22, 23, 24, 25, 26, 27, 28, 29, 30] rfl
  refine va_calli (va_runV (As := [.int (iz a1), .int (iz a2), .int (iz a3)]) (rest := []) ⟨hx, hb, hml, hown, hts⟩ (k_page2 l dC dI mo ma cs I Fm a1 a2 a3 H.size hI.1.hB hI.1.hc hI.1.hln (by omega) (by omega) (by omega) (by omega) (by omega) (by omega)) (cwV 3 hts (kx_gV kq_27_law_15 kq_27_law_16 kq_27_law_17 kq_04_msmall_6 kq_27_law_18 rfl) rfl rfl rfl (by decide +kernel) ⟨Nat.le_of_ble_eq_true rfl, Nat.le_of_ble_eq_true rfl⟩) ⟨kx_blind, va_recv hKc hPc (ci := 6) (q0 := 0) rfl rfl, kx_give (ws := []) (tys := []) hPc hDc hKc hG hZ hS hFc⟩ rfl rfl hl.1 rfl (lv_room (Nat.le_of_ble_eq_true rfl)) dL_law_232 ⟨show (cells + dn9) + 0 ≤ 600384 from (Nat.le_trans hlc.2 (by decide)), show (slots + dm9) + 0 ≤ 7291369 from (Nat.le_trans hls.2 (by decide))⟩) hS (fun q _ h => hFc q h) hFc (fun r u t H1 locs ht hvm hw hB hz1 hk1 hS => ?_)
  obtain ⟨rr1, J1, G1m⟩ := u
  obtain ⟨hP1, hK1, hD1⟩ := hB
  rw [ht] at hP1
  obtain ⟨e1, hw⟩ := hw
  subst e1
  try dsimp only at hw
  obtain ⟨hP, hD⟩ := va_joinQ (wr := xU cI cB cE o9 r9 n9 z9 F9 G9 (Eo9 0 0) ++ [(ou, .inl (cL, 1, .inr (.inl fo9)))]) (w1 := mW mo ma cs J1 G1m) hP hD [29, 30, 31, 32, 33, 34, 35, 36, 37, 38, 39, 40, 41, 42, 43, 44, 45, 46, 47, 48, 49, 50, 51, 52, 53, 54, 55, 56, 57] [0, 1, 2, 3, 4, 5, 6, 7, 8, 9, 10, 11, 12, 13, 14, 15, 16, 17, 18, 19, 20, 21, 22, 23, 24, 25, 26, 27, 28, 58] rfl rfl lq_0 lq_4 hk1 hFc hP1 hD1
  generalize H1 = H at hP hS ⊢
  have hP : va_P (dC, dI) kxCl (((xU cI cB cE o9 r9 n9 z9 F9 G9 (Eo9 0 0) ++ mW mo ma cs J1 G1m) ++ [(ou, .inl (cL, 1, .inr (.inl fo9)))]) ++ eP cI N9 Eo9 Er9 En9 Ez9 EF9) H := va_P.part (cx := ((xU cI cB cE o9 r9 n9 z9 F9 G9 (Eo9 0 0) ++ mW mo ma cs J1 G1m) ++ [(ou, .inl (cL, 1, .inr (.inl fo9)))])) hP [0, 1, 2, 3, 4, 5, 6, 7, 8, 9, 10, 11, 12, 13, 14, 15, 16, 17, 18, 19, 20, 21, 22, 23, 24, 25, 26, 27, 28, 30, 31, 32, 33, 34, 35, 36, 37, 38, 39, 40, 41, 42, 43, 44, 45, 46, 47, 48, 49, 50, 51, 52, 53, 54, 55, 56, 57, 58, 29] rfl
  have hD : va_D (fun q : Nat => s.heap.size ≤ q) (((xU cI cB cE o9 r9 n9 z9 F9 G9 (Eo9 0 0) ++ mW mo ma cs J1 G1m) ++ [(ou, .inl (cL, 1, .inr (.inl fo9)))]) ++ eP cI N9 Eo9 Er9 En9 Ez9 EF9) := va_D.part (cx := ((xU cI cB cE o9 r9 n9 z9 F9 G9 (Eo9 0 0) ++ mW mo ma cs J1 G1m) ++ [(ou, .inl (cL, 1, .inr (.inl fo9)))])) hD [0, 1, 2, 3, 4, 5, 6, 7, 8, 9, 10, 11, 12, 13, 14, 15, 16, 17, 18, 19, 20, 21, 22, 23, 24, 25, 26, 27, 28, 30, 31, 32, 33, 34, 35, 36, 37, 38, 39, 40, 41, 42, 43, 44, 45, 46, 47, 48, 49, 50, 51, 52, 53, 54, 55, 56, 57, 58, 29] lq_5 rfl
  obtain ⟨hcode, hans, hR9, hI9⟩ := st_page hI hk01.2 hR ⟨a2l, a2h⟩ (hrelF ()) hw
  refine W.eq (g2 := F0 m 235 ls [.int (iz rr1)]) rfl ?_
  have hbq := hI9.1.hB.1 0
  refine lv_istore (lv' := [(6, .int (iz rr1)), (5, .int (iz q9)), (4, .int (iz (4 * k))), (3, .ref ou), (2, .ref mo), (1, .ref (o 15)), (0, .ref b)]) hx hb dL_law_235 hl (by decide) rfl (fun ls hl => ?_)
  refine lv_goto (tgt := 689) hx hb dL_law_237 (by decide) ?_
  exact kk o9 r9 n9 z9 F9 G9 N9 Eo9 Er9 En9 Ez9 EF9 fo9 J1 G1m H _ _ _ ls (ho9 15 (by decide) (by decide)) hok9 hxG9 hPE9 hI9 hR9 hP hD hS hlc.1 hls.1 (lv_sub hl [2, 3, 4, 5, 6] rfl)
set_option maxHeartbeats 4000000 in
set_option maxRecDepth 100000 in
theorem law_range {p : Program} {l : Launch} {e : Env} {s : State} {m : MethodId} {below : List Frame} {meth : Method} {c : Code} {b : Nat} {dC : Nat → ClassId} {dI : Nat → Nat → Nat} {cI cB cE cL : ClassId} {cs : Nat → ClassId} {mo : Nat} {ma : Nat → Nat} {ou xr : Nat} {L : Nat} {xs : Nat → Int32} {k : Int} (hlf : l.stackTraces = false) (C0 : lw_At p s m meth c b L xs) (hL : L ≤ 256) (hk : 0 ≤ k ∧ 4 * k + 4 ≤ (L : Int)) (hK : va_K (dC, dI) kxCl (lT cI cB cE cL cs) s) (kk : LW p l e s m below meth c b dC dI cI cB cE cL cs mo ma ou xr k (k + 1) 689) : LW p l e s m below meth c b dC dI cI cB cE cL cs mo ma ou xr k k 240 := by
  obtain ⟨hx, hb, hr, hml, hown, hts0, hX, hbl, hlocks, hgv⟩ := id C0
  have hown : s.vm.findClass RL = some m.cls := hown
  have hA : ∀ q : Nat, s.heap.size ≤ q → (fun q : Nat => s.heap.size ≤ q) q := fun _ h => h
  have hbA : ¬ (fun q : Nat => s.heap.size ≤ q) b := Nat.not_le.mpr hbl
  have hG : kx_G s := ⟨s, _, hts0, hgv, State.WarmedH.refl s⟩
  have hZ : kx_Z (fun q : Nat => s.heap.size ≤ q) s s.heap := law_Z hts0 hgv
  have hts := kx_hts (a := #[Value.ref b]) hG
  intro o r n z F G N Eo Er En Ez EF fo I Fm H locs cells slots ls hxr hok hxG hPE hI hR hP hD hS hcl hsl hl
  subst hxr
  obtain ⟨hN1, hN2, hN3, hN4⟩ := id hxG
  have hz78 := hR.2.1
  have hk64 := hI.2.1.1
  have hk01 : 0 ≤ k ∧ k < 64 := by omega
  obtain ⟨a1, ea1, a1l, a1h⟩ := iz_of (xs (iz (4 * k + 1)).toNatClampNeg)
  obtain ⟨a2, ea2, a2l, a2h⟩ := iz_of (xs (iz (4 * k + 2)).toNatClampNeg)
  obtain ⟨a3, ea3, a3l, a3h⟩ := iz_of (xs (iz (4 * k + 3)).toNatClampNeg)
  refine lv_aload_n hx hb dL_law_240 rfl (lv_at hl 3 rfl) ?_
  refine lv_aload_n hx hb dL_law_241 rfl (lv_at hl 4 rfl) ?_
  refine lv_iload hx hb dL_law_242 (lv_at hl 0 rfl) ?_
  refine lv_iconst (v := iz 1) hx hb dL_law_244 (by decide) ?_
  refine ki_iadd hx hb dL_law_245 ?_
  refine va_sld hx hb hX hbl hbA hS (iz_in (by omega) (by omega) (by omega)) dL_law_246 ?_
  refine ki_is ea1 ?_
  refine lv_aload_n hx hb dL_law_247 rfl (lv_at hl 4 rfl) ?_
  refine lv_iload hx hb dL_law_248 (lv_at hl 0 rfl) ?_
  refine lv_iconst (v := iz 2) hx hb dL_law_250 (by decide) ?_
  refine ki_iadd hx hb dL_law_251 ?_
  refine va_sld hx hb hX hbl hbA hS (iz_in (by omega) (by omega) (by omega)) dL_law_252 ?_
  refine ki_is ea2 ?_
  refine lv_aload_n hx hb dL_law_253 rfl (lv_at hl 4 rfl) ?_
  refine lv_iload hx hb dL_law_254 (lv_at hl 0 rfl) ?_
  refine lv_iconst (v := iz 3) hx hb dL_law_256 (by decide) ?_
  refine ki_iadd hx hb dL_law_257 ?_
  refine va_sld hx hb hX hbl hbA hS (iz_in (by omega) (by omega) (by omega)) dL_law_258 ?_
  refine ki_is ea3 ?_
  refine ki_if_eq (tgt := 266) hx hb dL_law_259 (by decide) (by omega) (by omega) (fun c_1 => ?_) (fun c_1 => ?_)
  · skip
    refine lv_iconst (v := iz 0) hx hb dL_law_266 (by decide) ?_
    refine lv_aload_n hx hb dL_law_267 rfl (lv_at hl 1 rfl) ?_
    have hPc : va_P (dC, dI) kxCl ((xU cI cB cE o r n z F G (Eo 0 0) ++ [(ou, .inl (cL, 1, .inr (.inl fo)))]) ++ eP cI N Eo Er En Ez EF) H := va_P.part (cx := xU cI cB cE o r n z F G (Eo 0 0) ++ [(ou, .inl (cL, 1, .inr (.inl fo)))]) hP [0, 1, 2, 3, 4, 5, 6, 7, 8, 9, 10, 11, 12, 13, 14, 15, 16, 17, 18, 19, 20, 21, 22, 23, 24, 25, 26, 27, 28, 58] rfl
    have hDc : va_D (fun q : Nat => s.heap.size ≤ q) ((xU cI cB cE o r n z F G (Eo 0 0) ++ [(ou, .inl (cL, 1, .inr (.inl fo)))]) ++ eP cI N Eo Er En Ez EF) := va_D.part (cx := xU cI cB cE o r n z F G (Eo 0 0) ++ [(ou, .inl (cL, 1, .inr (.inl fo)))]) hD [0, 1, 2, 3, 4, 5, 6, 7, 8, 9, 10, 11, 12, 13, 14, 15, 16, 17, 18, 19, 20, 21, 22, 23, 24, 25, 26, 27, 28, 58] lq_0 rfl
    have hFc := va_freeP (cx := xU cI cB cE o r n z F G (Eo 0 0) ++ [(ou, .inl (cL, 1, .inr (.inl fo)))]) hD hS hA [0, 1, 2, 3, 4, 5, 6, 7, 8, 9, 10, 11, 12, 13, 14, 15, 16, 17, 18, 19, 20, 21, 22, 23, 24, 25, 26, 27, 28, 58] rfl
    have hKc := hK.sub (tys' := [(cI, .int), (cB, .byte), (cE, .object RX0), (cL, .long)]) [0, 1, 2, 31] rfl
    refine xk_call (vx_runSW (As := [.ref (o 15), .int (iz a1), .int (iz a2), .int (iz 0), .ref ou]) (rest := []) ⟨hx, hb, hml, hown, hts⟩ (h_range l hlf dC dI cI cB cE cL o r n z F G N Eo Er En Ez EF ou fo a1 a2 0 H.size hok hxG hPE (by omega) (by omega) (by omega) (by omega) (by omega)) (vx_cwSW 5 hts (kx_gS kq_27_law_19 kq_27_law_20 kq_27_law_2 kq_25_xhelp_21 rfl) rfl rfl rfl (by decide +kernel) ⟨Nat.le_of_ble_eq_true rfl, Nat.le_of_ble_eq_true rfl⟩) ⟨kx_blind, kx_give (ws := []) (tys := []) hPc hDc hKc hG hZ hS hFc⟩ rfl rfl hl.1 rfl (lv_room (Nat.le_of_ble_eq_true rfl)) dL_law_268 ⟨show cells + 200 ≤ 600384 from (by omega), show slots + 60000 ≤ 7291369 from (by omega)⟩) hS (fun q _ h => hFc q h) hFc (fun u dn9 dm9 t H1 locs ht hvm hq hB hk1 hS => ?_)
    obtain ⟨q9, fo9, o9, r9, n9, z9, F9, G9, N9, Eo9, Er9, En9, Ez9, EF9⟩ := u
    obtain ⟨hP1, hK1, hD1⟩ := hB
    rw [ht] at hP1
    try dsimp only at hq
    obtain ⟨hP, hD⟩ := va_joinP (wr := mW mo ma cs I Fm) (rx := xU cI cB cE o9 r9 n9 z9 F9 G9 (Eo9 0 0) ++ [(ou, .inl (cL, 1, .inr (.inl fo9)))]) (pl1 := eP cI N9 Eo9 Er9 En9 Ez9 EF9) hP hD [0, 1, 2, 3, 4, 5, 6, 7, 8, 9, 10, 11, 12, 13, 14, 15, 16, 17, 18, 19, 20, 21, 22, 23, 24, 25, 26, 27, 28, 58] [29, 30, 31, 32, 33, 34, 35, 36, 37, 38, 39, 40, 41, 42, 43, 44, 45, 46, 47, 48, 49, 50, 51, 52, 53, 54, 55, 56, 57] rfl rfl lq_1 lq_2 hk1 hFc hP1 hD1
    generalize H1 = H at hP hS ⊢
    have hP : va_P (dC, dI) kxCl (((xU cI cB cE o9 r9 n9 z9 F9 G9 (Eo9 0 0) ++ mW mo ma cs I Fm) ++ [(ou, .inl (cL, 1, .inr (.inl fo9)))]) ++ eP cI N9 Eo9 Er9 En9 Ez9 EF9) H := va_P.part (cx := ((xU cI cB cE o9 r9 n9 z9 F9 G9 (Eo9 0 0) ++ mW mo ma cs I Fm) ++ [(ou, .inl (cL, 1, .inr (.inl fo9)))])) hP [29, 30, 31, 32, 33, 34, 35, 36, 37, 38, 39, 40, 41, 42, 43, 44, 45, 46, 47, 48, 49, 50, 51, 52, 53, 54, 55, 56, 57, 0, 1, 2, 3, 4, 5, 6, 7, 8, 9, 10, 11, 12, 13, 14, 15, 16, 17, 18, 19, 20, 21, 22, 23, 24, 25, 26, 27, 28, 58] rfl
    have hD : va_D (fun q : Nat => s.heap.size ≤ q) (((xU cI cB cE o9 r9 n9 z9 F9 G9 (Eo9 0 0) ++ mW mo ma cs I Fm) ++ [(ou, .inl (cL, 1, .inr (.inl fo9)))]) ++ eP cI N9 Eo9 Er9 En9 Ez9 EF9) := va_D.part (cx := ((xU cI cB cE o9 r9 n9 z9 F9 G9 (Eo9 0 0) ++ mW mo ma cs I Fm) ++ [(ou, .inl (cL, 1, .inr (.inl fo9)))])) hD [29, 30, 31, 32, 33, 34, 35, 36, 37, 38, 39, 40, 41, 42, 43, 44, 45, 46, 47, 48, 49, 50, 51, 52, 53, 54, 55, 56, 57, 0, 1, 2, 3, 4, 5, 6, 7, 8, 9, 10, 11, 12, 13, 14, 15, 16, 17, 18, 19, 20, 21, 22, 23, 24, 25, 26, 27, 28, 58] lq_3 rfl
    obtain ⟨hok9, hxG9, hPE9, hcost, ho9, hrel⟩ := hq
    have hrelF := fun (_ : Unit) => hrel
    clear hrel
    have hlc := lcC hcl (Nat.le_trans hcost.1 (by decide)) hk01
    have hls := lcS hsl (Nat.le_trans hcost.2 (by decide)) hk01
    refine W.eq (g2 := F0 m 271 ls [.int (iz q9)]) rfl ?_
    refine lv_istore (lv' := [(5, .int (iz q9)), (4, .int (iz (4 * k))), (3, .ref ou), (2, .ref mo), (1, .ref (o 15)), (0, .ref b)]) hx hb dL_law_271 hl (by decide) rfl (fun ls hl => ?_)
    refine lv_aload_n hx hb dL_law_273 rfl (lv_at hl 3 rfl) ?_
    refine lv_aload_n hx hb dL_law_274 rfl (lv_at hl 5 rfl) ?_
    refine lv_iload hx hb dL_law_275 (lv_at hl 1 rfl) ?_
    refine lv_iconst (v := iz 1) hx hb dL_law_277 (by decide) ?_
    refine ki_iadd hx hb dL_law_278 ?_
    refine va_sld hx hb hX hbl hbA hS (iz_in (by omega) (by omega) (by omega)) dL_law_279 ?_
    refine ki_is ea1 ?_
    refine lv_aload_n hx hb dL_law_280 rfl (lv_at hl 5 rfl) ?_
    refine lv_iload hx hb dL_law_281 (lv_at hl 1 rfl) ?_
    refine lv_iconst (v := iz 2) hx hb dL_law_283 (by decide) ?_
    refine ki_iadd hx hb dL_law_284 ?_
    refine va_sld hx hb hX hbl hbA hS (iz_in (by omega) (by omega) (by omega)) dL_law_285 ?_
    refine ki_is ea2 ?_
    refine lv_aload_n hx hb dL_law_286 rfl (lv_at hl 5 rfl) ?_
    refine lv_iload hx hb dL_law_287 (lv_at hl 1 rfl) ?_
    refine lv_iconst (v := iz 3) hx hb dL_law_289 (by decide) ?_
    refine ki_iadd hx hb dL_law_290 ?_
    refine va_sld hx hb hX hbl hbA hS (iz_in (by omega) (by omega) (by omega)) dL_law_291 ?_
    refine ki_is ea3 ?_
    refine ki_if_eq (tgt := 299) hx hb dL_law_292 (by decide) (by omega) (by omega) (fun c_2 => ?_) (fun c_2 => ?_)
    · skip
      refine lv_iconst (v := iz 0) hx hb dL_law_299 (by decide) ?_
      have hPc := hP.sub (ws' := mW mo ma cs I Fm) [29, 30, 31, 32, 33, 34, 35, 36, 37, 38, 39, 40, 41, 42, 43, 44, 45, 46, 47, 48, 49, 50, 51, 52, 53, 54, 55, 56, 57] rfl
      have hDc := hD.sub (ws' := mW mo ma cs I Fm) [29, 30, 31, 32, 33, 34, 35, 36, 37, 38, 39, 40, 41, 42, 43, 44, 45, 46, 47, 48, 49, 50, 51, 52, 53, 54, 55, 56, 57] lq_1 rfl
      have hFc := va_free (wc := mW mo ma cs I Fm) hD hS hA [29, 30, 31, 32, 33, 34, 35, 36, 37, 38, 39, 40, 41, 42, 43, 44, 45, 46, 47, 48, 49, 50, 51, 52, 53, 54, 55, 56, 57] rfl
      have hKc := hK.sub (tys' := mT cs) [3, 4, 5, 6, 7, 8, 9, 10, 11, 12, 13, 14, 15, 16, 17, 18, 19, 20, 21, 22, 23, 24, 25, 26, 27, 28, 29, 30] rfl
      refine va_calli (va_runV (As := [.int (iz a1), .int (iz a2), .int (iz 0)]) (rest := []) ⟨hx, hb, hml, hown, hts⟩ (k_range l dC dI mo ma cs I Fm a1 a2 0 H.size hI.1.hB hI.1.hc hI.1.hln (by omega) (by omega) (by omega) (by omega) (by omega) (by omega)) (cwV 3 hts (kx_gV kq_27_law_21 kq_27_law_22 kq_27_law_23 kq_04_msmall_6 kq_27_law_24 rfl) rfl rfl rfl (by decide +kernel) ⟨Nat.le_of_ble_eq_true rfl, Nat.le_of_ble_eq_true rfl⟩) ⟨kx_blind, va_recv hKc hPc (ci := 6) (q0 := 0) rfl rfl, kx_give (ws := []) (tys := []) hPc hDc hKc hG hZ hS hFc⟩ rfl rfl hl.1 rfl (lv_room (Nat.le_of_ble_eq_true rfl)) dL_law_300 ⟨show (cells + dn9) + 0 ≤ 600384 from (Nat.le_trans hlc.2 (by decide)), show (slots + dm9) + 0 ≤ 7291369 from (Nat.le_trans hls.2 (by decide))⟩) hS (fun q _ h => hFc q h) hFc (fun r u t H1 locs ht hvm hw hB hz1 hk1 hS => ?_)
      obtain ⟨rr3, J3, G3m⟩ := u
      obtain ⟨hP1, hK1, hD1⟩ := hB
      rw [ht] at hP1
      obtain ⟨e1, hw⟩ := hw
      subst e1
      try dsimp only at hw
      obtain ⟨hP, hD⟩ := va_joinQ (wr := xU cI cB cE o9 r9 n9 z9 F9 G9 (Eo9 0 0) ++ [(ou, .inl (cL, 1, .inr (.inl fo9)))]) (w1 := mW mo ma cs J3 G3m) hP hD [29, 30, 31, 32, 33, 34, 35, 36, 37, 38, 39, 40, 41, 42, 43, 44, 45, 46, 47, 48, 49, 50, 51, 52, 53, 54, 55, 56, 57] [0, 1, 2, 3, 4, 5, 6, 7, 8, 9, 10, 11, 12, 13, 14, 15, 16, 17, 18, 19, 20, 21, 22, 23, 24, 25, 26, 27, 28, 58] rfl rfl lq_0 lq_4 hk1 hFc hP1 hD1
      generalize H1 = H at hP hS ⊢
      have hP : va_P (dC, dI) kxCl (((xU cI cB cE o9 r9 n9 z9 F9 G9 (Eo9 0 0) ++ mW mo ma cs J3 G3m) ++ [(ou, .inl (cL, 1, .inr (.inl fo9)))]) ++ eP cI N9 Eo9 Er9 En9 Ez9 EF9) H := va_P.part (cx := ((xU cI cB cE o9 r9 n9 z9 F9 G9 (Eo9 0 0) ++ mW mo ma cs J3 G3m) ++ [(ou, .inl (cL, 1, .inr (.inl fo9)))])) hP [0, 1, 2, 3, 4, 5, 6, 7, 8, 9, 10, 11, 12, 13, 14, 15, 16, 17, 18, 19, 20, 21, 22, 23, 24, 25, 26, 27, 28, 30, 31, 32, 33, 34, 35, 36, 37, 38, 39, 40, 41, 42, 43, 44, 45, 46, 47, 48, 49, 50, 51, 52, 53, 54, 55, 56, 57, 58, 29] rfl
      have hD : va_D (fun q : Nat => s.heap.size ≤ q) (((xU cI cB cE o9 r9 n9 z9 F9 G9 (Eo9 0 0) ++ mW mo ma cs J3 G3m) ++ [(ou, .inl (cL, 1, .inr (.inl fo9)))]) ++ eP cI N9 Eo9 Er9 En9 Ez9 EF9) := va_D.part (cx := ((xU cI cB cE o9 r9 n9 z9 F9 G9 (Eo9 0 0) ++ mW mo ma cs J3 G3m) ++ [(ou, .inl (cL, 1, .inr (.inl fo9)))])) hD [0, 1, 2, 3, 4, 5, 6, 7, 8, 9, 10, 11, 12, 13, 14, 15, 16, 17, 18, 19, 20, 21, 22, 23, 24, 25, 26, 27, 28, 30, 31, 32, 33, 34, 35, 36, 37, 38, 39, 40, 41, 42, 43, 44, 45, 46, 47, 48, 49, 50, 51, 52, 53, 54, 55, 56, 57, 58, 29] lq_5 rfl
      obtain ⟨hcode, hans, hR9, hI9⟩ := st_range hI hk01.2 hR (by decide) (hrelF ()) hw
      refine W.eq (g2 := F0 m 303 ls [.int (iz rr3)]) rfl ?_
      have hbq := hI9.1.hB.1 0
      refine lv_istore (lv' := [(6, .int (iz rr3)), (5, .int (iz q9)), (4, .int (iz (4 * k))), (3, .ref ou), (2, .ref mo), (1, .ref (o 15)), (0, .ref b)]) hx hb dL_law_303 hl (by decide) rfl (fun ls hl => ?_)
      refine lv_aload_n hx hb dL_law_305 rfl (lv_at hl 4 rfl) ?_
      have hPc := hP.sub (ws' := mW mo ma cs J3 G3m) [29, 30, 31, 32, 33, 34, 35, 36, 37, 38, 39, 40, 41, 42, 43, 44, 45, 46, 47, 48, 49, 50, 51, 52, 53, 54, 55, 56, 57] rfl
      have hDc := hD.sub (ws' := mW mo ma cs J3 G3m) [29, 30, 31, 32, 33, 34, 35, 36, 37, 38, 39, 40, 41, 42, 43, 44, 45, 46, 47, 48, 49, 50, 51, 52, 53, 54, 55, 56, 57] lq_1 rfl
      have hFc := va_free (wc := mW mo ma cs J3 G3m) hD hS hA [29, 30, 31, 32, 33, 34, 35, 36, 37, 38, 39, 40, 41, 42, 43, 44, 45, 46, 47, 48, 49, 50, 51, 52, 53, 54, 55, 56, 57] rfl
      have hKc := hK.sub (tys' := mT cs) [3, 4, 5, 6, 7, 8, 9, 10, 11, 12, 13, 14, 15, 16, 17, 18, 19, 20, 21, 22, 23, 24, 25, 26, 27, 28, 29, 30] rfl
      refine va_calli (va_runV (As := []) (rest := []) ⟨hx, hb, hml, hown, hts⟩ (k_thrown l dC dI mo ma cs J3 G3m  H.size hI9.1.hB) (cwV 0 hts (kx_gV kq_27_law_25 kq_27_law_26 kq_27_law_27 kq_04_msmall_6 kq_27_law_28 rfl) rfl rfl rfl (by decide +kernel) ⟨Nat.le_of_ble_eq_true rfl, Nat.le_of_ble_eq_true rfl⟩) ⟨kx_blind, va_recv hKc hPc (ci := 6) (q0 := 0) rfl rfl, kx_give (ws := []) (tys := []) hPc hDc hKc hG hZ hS hFc⟩ rfl rfl hl.1 rfl (lv_room (Nat.le_of_ble_eq_true rfl)) dL_law_306 ⟨show ((cells + dn9) + 0) + 0 ≤ 600384 from (Nat.le_trans hlc.2 (by decide)), show ((slots + dm9) + 0) + 0 ≤ 7291369 from (Nat.le_trans hls.2 (by decide))⟩) hS (fun q _ h => hFc q h) hFc (fun r u t H1 locs ht hvm hw hB hz1 hk1 hS => ?_)
      obtain ⟨rr4, J4, G4m⟩ := u
      obtain ⟨hP1, hK1, hD1⟩ := hB
      rw [ht] at hP1
      obtain ⟨e1, hw⟩ := hw
      subst e1
      try dsimp only at hw
      obtain ⟨hP, hD⟩ := va_joinQ (wr := xU cI cB cE o9 r9 n9 z9 F9 G9 (Eo9 0 0) ++ [(ou, .inl (cL, 1, .inr (.inl fo9)))]) (w1 := mW mo ma cs J4 G4m) hP hD [29, 30, 31, 32, 33, 34, 35, 36, 37, 38, 39, 40, 41, 42, 43, 44, 45, 46, 47, 48, 49, 50, 51, 52, 53, 54, 55, 56, 57] [0, 1, 2, 3, 4, 5, 6, 7, 8, 9, 10, 11, 12, 13, 14, 15, 16, 17, 18, 19, 20, 21, 22, 23, 24, 25, 26, 27, 28, 58] rfl rfl lq_0 lq_4 hk1 hFc hP1 hD1
      generalize H1 = H at hP hS ⊢
      have hP : va_P (dC, dI) kxCl (((xU cI cB cE o9 r9 n9 z9 F9 G9 (Eo9 0 0) ++ mW mo ma cs J4 G4m) ++ [(ou, .inl (cL, 1, .inr (.inl fo9)))]) ++ eP cI N9 Eo9 Er9 En9 Ez9 EF9) H := va_P.part (cx := ((xU cI cB cE o9 r9 n9 z9 F9 G9 (Eo9 0 0) ++ mW mo ma cs J4 G4m) ++ [(ou, .inl (cL, 1, .inr (.inl fo9)))])) hP [0, 1, 2, 3, 4, 5, 6, 7, 8, 9, 10, 11, 12, 13, 14, 15, 16, 17, 18, 19, 20, 21, 22, 23, 24, 25, 26, 27, 28, 30, 31, 32, 33, 34, 35, 36, 37, 38, 39, 40, 41, 42, 43, 44, 45, 46, 47, 48, 49, 50, 51, 52, 53, 54, 55, 56, 57, 58, 29] rfl
      have hD : va_D (fun q : Nat => s.heap.size ≤ q) (((xU cI cB cE o9 r9 n9 z9 F9 G9 (Eo9 0 0) ++ mW mo ma cs J4 G4m) ++ [(ou, .inl (cL, 1, .inr (.inl fo9)))]) ++ eP cI N9 Eo9 Er9 En9 Ez9 EF9) := va_D.part (cx := ((xU cI cB cE o9 r9 n9 z9 F9 G9 (Eo9 0 0) ++ mW mo ma cs J4 G4m) ++ [(ou, .inl (cL, 1, .inr (.inl fo9)))])) hD [0, 1, 2, 3, 4, 5, 6, 7, 8, 9, 10, 11, 12, 13, 14, 15, 16, 17, 18, 19, 20, 21, 22, 23, 24, 25, 26, 27, 28, 30, 31, 32, 33, 34, 35, 36, 37, 38, 39, 40, 41, 42, 43, 44, 45, 46, 47, 48, 49, 50, 51, 52, 53, 54, 55, 56, 57, 58, 29] lq_5 rfl
      obtain ⟨rfl, rfl, hth⟩ := hw
      have hP : va_P (dC, dI) kxCl (((xU cI cB cE o9 r9 n9 z9 F9 G9 (Eo9 0 0) ++ mW mo ma cs J3 G3m) ++ [(ou, .inl (cL, 1, .inr (.inl fo9)))]) ++ eP cI N9 Eo9 Er9 En9 Ez9 EF9) H := hP
      have hD : va_D (fun q : Nat => s.heap.size ≤ q) (((xU cI cB cE o9 r9 n9 z9 F9 G9 (Eo9 0 0) ++ mW mo ma cs J3 G3m) ++ [(ou, .inl (cL, 1, .inr (.inl fo9)))]) ++ eP cI N9 Eo9 Er9 En9 Ez9 EF9) := hD
      refine W.eq (g2 := F0 m 309 ls [.int (iz rr4)]) rfl ?_
      have hbd0 := hI9.1.hB.1 0
      refine lv_iload hx hb dL_law_309 (lv_at hl 1 rfl) ?_
      refine ki_icmp_eq (tgt := 316) hx hb dL_law_311 (by decide) (by omega) (by omega) (by omega) (by omega) (fun c_5 => ?_) (fun c_5 => ?_)
      · skip
        refine lv_iload hx hb dL_law_316 (lv_at hl 1 rfl) ?_
        refine ki_if_ne (tgt := 333) hx hb dL_law_318 (by decide) (by omega) (by omega) (fun c_6 => ?_) (fun c_6 => ?_)
        · skip
          refine lv_goto (tgt := 689) hx hb dL_law_333 (by decide) ?_
          exact kk o9 r9 n9 z9 F9 G9 N9 Eo9 Er9 En9 Ez9 EF9 fo9 J3 G3m H _ _ _ ls (ho9 15 (by decide) (by decide)) hok9 hxG9 hPE9 hI9 hR9 hP hD hS hlc.1 hls.1 (lv_sub hl [2, 3, 4, 5, 6] rfl)
        · skip
          refine lv_aload_n hx hb dL_law_321 rfl (lv_at hl 3 rfl) ?_
          refine lv_iconst (v := iz 0) hx hb dL_law_322 (by decide) ?_
          refine va_lald hx hb hK hP 58 31 rfl rfl (iz_in (by omega) (by omega) (by omega)) dL_law_323 ?_
          refine lv_iload hx hb dL_law_324 (lv_at hl 0 rfl) ?_
          refine lv_i2l (v := Int32.toInt64 (iz rr3)) hx hb dL_law_326 rfl ?_
          refine W.lcmp hx hb dL_law_327 ?_
          refine ki_is (show lg_cmp _ _ = iz 0 from kz_cmp (by rw [show (iz 0).toNatClampNeg = 0 by decide]; exact hans c_6)) ?_
          refine ki_if_eq (tgt := 333) hx hb dL_law_328 (by decide) (by omega) (by omega) (fun c_7 => ?_) (fun c_7 => ?_)
          · skip
            refine lv_goto (tgt := 689) hx hb dL_law_333 (by decide) ?_
            exact kk o9 r9 n9 z9 F9 G9 N9 Eo9 Er9 En9 Ez9 EF9 fo9 J3 G3m H _ _ _ ls (ho9 15 (by decide) (by decide)) hok9 hxG9 hPE9 hI9 hR9 hP hD hS hlc.1 hls.1 (lv_sub hl [2, 3, 4, 5, 6] rfl)
          · exact absurd rfl c_7
      · exact absurd (by omega) c_5
    · omega
  · skip
    refine lv_iconst (v := iz 1) hx hb dL_law_262 (by decide) ?_
    refine lv_goto (tgt := 267) hx hb dL_law_263 (by decide) ?_
    refine lv_aload_n hx hb dL_law_267 rfl (lv_at hl 1 rfl) ?_
    have hPc : va_P (dC, dI) kxCl ((xU cI cB cE o r n z F G (Eo 0 0) ++ [(ou, .inl (cL, 1, .inr (.inl fo)))]) ++ eP cI N Eo Er En Ez EF) H := va_P.part (cx := xU cI cB cE o r n z F G (Eo 0 0) ++ [(ou, .inl (cL, 1, .inr (.inl fo)))]) hP [0, 1, 2, 3, 4, 5, 6, 7, 8, 9, 10, 11, 12, 13, 14, 15, 16, 17, 18, 19, 20, 21, 22, 23, 24, 25, 26, 27, 28, 58] rfl
    have hDc : va_D (fun q : Nat => s.heap.size ≤ q) ((xU cI cB cE o r n z F G (Eo 0 0) ++ [(ou, .inl (cL, 1, .inr (.inl fo)))]) ++ eP cI N Eo Er En Ez EF) := va_D.part (cx := xU cI cB cE o r n z F G (Eo 0 0) ++ [(ou, .inl (cL, 1, .inr (.inl fo)))]) hD [0, 1, 2, 3, 4, 5, 6, 7, 8, 9, 10, 11, 12, 13, 14, 15, 16, 17, 18, 19, 20, 21, 22, 23, 24, 25, 26, 27, 28, 58] lq_0 rfl
    have hFc := va_freeP (cx := xU cI cB cE o r n z F G (Eo 0 0) ++ [(ou, .inl (cL, 1, .inr (.inl fo)))]) hD hS hA [0, 1, 2, 3, 4, 5, 6, 7, 8, 9, 10, 11, 12, 13, 14, 15, 16, 17, 18, 19, 20, 21, 22, 23, 24, 25, 26, 27, 28, 58] rfl
    have hKc := hK.sub (tys' := [(cI, .int), (cB, .byte), (cE, .object RX0), (cL, .long)]) [0, 1, 2, 31] rfl
    refine xk_call (vx_runSW (As := [.ref (o 15), .int (iz a1), .int (iz a2), .int (iz 1), .ref ou]) (rest := []) ⟨hx, hb, hml, hown, hts⟩ (h_range l hlf dC dI cI cB cE cL o r n z F G N Eo Er En Ez EF ou fo a1 a2 1 H.size hok hxG hPE (by omega) (by omega) (by omega) (by omega) (by omega)) (vx_cwSW 5 hts (kx_gS kq_27_law_19 kq_27_law_20 kq_27_law_2 kq_25_xhelp_21 rfl) rfl rfl rfl (by decide +kernel) ⟨Nat.le_of_ble_eq_true rfl, Nat.le_of_ble_eq_true rfl⟩) ⟨kx_blind, kx_give (ws := []) (tys := []) hPc hDc hKc hG hZ hS hFc⟩ rfl rfl hl.1 rfl (lv_room (Nat.le_of_ble_eq_true rfl)) dL_law_268 ⟨show cells + 200 ≤ 600384 from (by omega), show slots + 60000 ≤ 7291369 from (by omega)⟩) hS (fun q _ h => hFc q h) hFc (fun u dn9 dm9 t H1 locs ht hvm hq hB hk1 hS => ?_)
    obtain ⟨q9, fo9, o9, r9, n9, z9, F9, G9, N9, Eo9, Er9, En9, Ez9, EF9⟩ := u
    obtain ⟨hP1, hK1, hD1⟩ := hB
    rw [ht] at hP1
    try dsimp only at hq
    obtain ⟨hP, hD⟩ := va_joinP (wr := mW mo ma cs I Fm) (rx := xU cI cB cE o9 r9 n9 z9 F9 G9 (Eo9 0 0) ++ [(ou, .inl (cL, 1, .inr (.inl fo9)))]) (pl1 := eP cI N9 Eo9 Er9 En9 Ez9 EF9) hP hD [0, 1, 2, 3, 4, 5, 6, 7, 8, 9, 10, 11, 12, 13, 14, 15, 16, 17, 18, 19, 20, 21, 22, 23, 24, 25, 26, 27, 28, 58] [29, 30, 31, 32, 33, 34, 35, 36, 37, 38, 39, 40, 41, 42, 43, 44, 45, 46, 47, 48, 49, 50, 51, 52, 53, 54, 55, 56, 57] rfl rfl lq_1 lq_2 hk1 hFc hP1 hD1
    generalize H1 = H at hP hS ⊢
    have hP : va_P (dC, dI) kxCl (((xU cI cB cE o9 r9 n9 z9 F9 G9 (Eo9 0 0) ++ mW mo ma cs I Fm) ++ [(ou, .inl (cL, 1, .inr (.inl fo9)))]) ++ eP cI N9 Eo9 Er9 En9 Ez9 EF9) H := va_P.part (cx := ((xU cI cB cE o9 r9 n9 z9 F9 G9 (Eo9 0 0) ++ mW mo ma cs I Fm) ++ [(ou, .inl (cL, 1, .inr (.inl fo9)))])) hP [29, 30, 31, 32, 33, 34, 35, 36, 37, 38, 39, 40, 41, 42, 43, 44, 45, 46, 47, 48, 49, 50, 51, 52, 53, 54, 55, 56, 57, 0, 1, 2, 3, 4, 5, 6, 7, 8, 9, 10, 11, 12, 13, 14, 15, 16, 17, 18, 19, 20, 21, 22, 23, 24, 25, 26, 27, 28, 58] rfl
    have hD : va_D (fun q : Nat => s.heap.size ≤ q) (((xU cI cB cE o9 r9 n9 z9 F9 G9 (Eo9 0 0) ++ mW mo ma cs I Fm) ++ [(ou, .inl (cL, 1, .inr (.inl fo9)))]) ++ eP cI N9 Eo9 Er9 En9 Ez9 EF9) := va_D.part (cx := ((xU cI cB cE o9 r9 n9 z9 F9 G9 (Eo9 0 0) ++ mW mo ma cs I Fm) ++ [(ou, .inl (cL, 1, .inr (.inl fo9)))])) hD [29, 30, 31, 32, 33, 34, 35, 36, 37, 38, 39, 40, 41, 42, 43, 44, 45, 46, 47, 48, 49, 50, 51, 52, 53, 54, 55, 56, 57, 0, 1, 2, 3, 4, 5, 6, 7, 8, 9, 10, 11, 12, 13, 14, 15, 16, 17, 18, 19, 20, 21, 22, 23, 24, 25, 26, 27, 28, 58] lq_3 rfl
    obtain ⟨hok9, hxG9, hPE9, hcost, ho9, hrel⟩ := hq
    have hrelF := fun (_ : Unit) => hrel
    clear hrel
    have hlc := lcC hcl (Nat.le_trans hcost.1 (by decide)) hk01
    have hls := lcS hsl (Nat.le_trans hcost.2 (by decide)) hk01
    refine W.eq (g2 := F0 m 271 ls [.int (iz q9)]) rfl ?_
    refine lv_istore (lv' := [(5, .int (iz q9)), (4, .int (iz (4 * k))), (3, .ref ou), (2, .ref mo), (1, .ref (o 15)), (0, .ref b)]) hx hb dL_law_271 hl (by decide) rfl (fun ls hl => ?_)
    refine lv_aload_n hx hb dL_law_273 rfl (lv_at hl 3 rfl) ?_
    refine lv_aload_n hx hb dL_law_274 rfl (lv_at hl 5 rfl) ?_
    refine lv_iload hx hb dL_law_275 (lv_at hl 1 rfl) ?_
    refine lv_iconst (v := iz 1) hx hb dL_law_277 (by decide) ?_
    refine ki_iadd hx hb dL_law_278 ?_
    refine va_sld hx hb hX hbl hbA hS (iz_in (by omega) (by omega) (by omega)) dL_law_279 ?_
    refine ki_is ea1 ?_
    refine lv_aload_n hx hb dL_law_280 rfl (lv_at hl 5 rfl) ?_
    refine lv_iload hx hb dL_law_281 (lv_at hl 1 rfl) ?_
    refine lv_iconst (v := iz 2) hx hb dL_law_283 (by decide) ?_
    refine ki_iadd hx hb dL_law_284 ?_
    refine va_sld hx hb hX hbl hbA hS (iz_in (by omega) (by omega) (by omega)) dL_law_285 ?_
    refine ki_is ea2 ?_
    refine lv_aload_n hx hb dL_law_286 rfl (lv_at hl 5 rfl) ?_
    refine lv_iload hx hb dL_law_287 (lv_at hl 1 rfl) ?_
    refine lv_iconst (v := iz 3) hx hb dL_law_289 (by decide) ?_
    refine ki_iadd hx hb dL_law_290 ?_
    refine va_sld hx hb hX hbl hbA hS (iz_in (by omega) (by omega) (by omega)) dL_law_291 ?_
    refine ki_is ea3 ?_
    refine ki_if_eq (tgt := 299) hx hb dL_law_292 (by decide) (by omega) (by omega) (fun c_8 => ?_) (fun c_8 => ?_)
    · omega
    · skip
      refine lv_iconst (v := iz 1) hx hb dL_law_295 (by decide) ?_
      refine lv_goto (tgt := 300) hx hb dL_law_296 (by decide) ?_
      have hPc := hP.sub (ws' := mW mo ma cs I Fm) [29, 30, 31, 32, 33, 34, 35, 36, 37, 38, 39, 40, 41, 42, 43, 44, 45, 46, 47, 48, 49, 50, 51, 52, 53, 54, 55, 56, 57] rfl
      have hDc := hD.sub (ws' := mW mo ma cs I Fm) [29, 30, 31, 32, 33, 34, 35, 36, 37, 38, 39, 40, 41, 42, 43, 44, 45, 46, 47, 48, 49, 50, 51, 52, 53, 54, 55, 56, 57] lq_1 rfl
      have hFc := va_free (wc := mW mo ma cs I Fm) hD hS hA [29, 30, 31, 32, 33, 34, 35, 36, 37, 38, 39, 40, 41, 42, 43, 44, 45, 46, 47, 48, 49, 50, 51, 52, 53, 54, 55, 56, 57] rfl
      have hKc := hK.sub (tys' := mT cs) [3, 4, 5, 6, 7, 8, 9, 10, 11, 12, 13, 14, 15, 16, 17, 18, 19, 20, 21, 22, 23, 24, 25, 26, 27, 28, 29, 30] rfl
      refine va_calli (va_runV (As := [.int (iz a1), .int (iz a2), .int (iz 1)]) (rest := []) ⟨hx, hb, hml, hown, hts⟩ (k_range l dC dI mo ma cs I Fm a1 a2 1 H.size hI.1.hB hI.1.hc hI.1.hln (by omega) (by omega) (by omega) (by omega) (by omega) (by omega)) (cwV 3 hts (kx_gV kq_27_law_21 kq_27_law_22 kq_27_law_23 kq_04_msmall_6 kq_27_law_24 rfl) rfl rfl rfl (by decide +kernel) ⟨Nat.le_of_ble_eq_true rfl, Nat.le_of_ble_eq_true rfl⟩) ⟨kx_blind, va_recv hKc hPc (ci := 6) (q0 := 0) rfl rfl, kx_give (ws := []) (tys := []) hPc hDc hKc hG hZ hS hFc⟩ rfl rfl hl.1 rfl (lv_room (Nat.le_of_ble_eq_true rfl)) dL_law_300 ⟨show (cells + dn9) + 0 ≤ 600384 from (Nat.le_trans hlc.2 (by decide)), show (slots + dm9) + 0 ≤ 7291369 from (Nat.le_trans hls.2 (by decide))⟩) hS (fun q _ h => hFc q h) hFc (fun r u t H1 locs ht hvm hw hB hz1 hk1 hS => ?_)
      obtain ⟨rr9, J9, G9m⟩ := u
      obtain ⟨hP1, hK1, hD1⟩ := hB
      rw [ht] at hP1
      obtain ⟨e1, hw⟩ := hw
      subst e1
      try dsimp only at hw
      obtain ⟨hP, hD⟩ := va_joinQ (wr := xU cI cB cE o9 r9 n9 z9 F9 G9 (Eo9 0 0) ++ [(ou, .inl (cL, 1, .inr (.inl fo9)))]) (w1 := mW mo ma cs J9 G9m) hP hD [29, 30, 31, 32, 33, 34, 35, 36, 37, 38, 39, 40, 41, 42, 43, 44, 45, 46, 47, 48, 49, 50, 51, 52, 53, 54, 55, 56, 57] [0, 1, 2, 3, 4, 5, 6, 7, 8, 9, 10, 11, 12, 13, 14, 15, 16, 17, 18, 19, 20, 21, 22, 23, 24, 25, 26, 27, 28, 58] rfl rfl lq_0 lq_4 hk1 hFc hP1 hD1
      generalize H1 = H at hP hS ⊢
      have hP : va_P (dC, dI) kxCl (((xU cI cB cE o9 r9 n9 z9 F9 G9 (Eo9 0 0) ++ mW mo ma cs J9 G9m) ++ [(ou, .inl (cL, 1, .inr (.inl fo9)))]) ++ eP cI N9 Eo9 Er9 En9 Ez9 EF9) H := va_P.part (cx := ((xU cI cB cE o9 r9 n9 z9 F9 G9 (Eo9 0 0) ++ mW mo ma cs J9 G9m) ++ [(ou, .inl (cL, 1, .inr (.inl fo9)))])) hP [0, 1, 2, 3, 4, 5, 6, 7, 8, 9, 10, 11, 12, 13, 14, 15, 16, 17, 18, 19, 20, 21, 22, 23, 24, 25, 26, 27, 28, 30, 31, 32, 33, 34, 35, 36, 37, 38, 39, 40, 41, 42, 43, 44, 45, 46, 47, 48, 49, 50, 51, 52, 53, 54, 55, 56, 57, 58, 29] rfl
      have hD : va_D (fun q : Nat => s.heap.size ≤ q) (((xU cI cB cE o9 r9 n9 z9 F9 G9 (Eo9 0 0) ++ mW mo ma cs J9 G9m) ++ [(ou, .inl (cL, 1, .inr (.inl fo9)))]) ++ eP cI N9 Eo9 Er9 En9 Ez9 EF9) := va_D.part (cx := ((xU cI cB cE o9 r9 n9 z9 F9 G9 (Eo9 0 0) ++ mW mo ma cs J9 G9m) ++ [(ou, .inl (cL, 1, .inr (.inl fo9)))])) hD [0, 1, 2, 3, 4, 5, 6, 7, 8, 9, 10, 11, 12, 13, 14, 15, 16, 17, 18, 19, 20, 21, 22, 23, 24, 25, 26, 27, 28, 30, 31, 32, 33, 34, 35, 36, 37, 38, 39, 40, 41, 42, 43, 44, 45, 46, 47, 48, 49, 50, 51, 52, 53, 54, 55, 56, 57, 58, 29] lq_5 rfl
      obtain ⟨hcode, hans, hR9, hI9⟩ := st_range hI hk01.2 hR (by decide) (hrelF ()) hw
      refine W.eq (g2 := F0 m 303 ls [.int (iz rr9)]) rfl ?_
      have hbq := hI9.1.hB.1 0
      refine lv_istore (lv' := [(6, .int (iz rr9)), (5, .int (iz q9)), (4, .int (iz (4 * k))), (3, .ref ou), (2, .ref mo), (1, .ref (o 15)), (0, .ref b)]) hx hb dL_law_303 hl (by decide) rfl (fun ls hl => ?_)
      refine lv_aload_n hx hb dL_law_305 rfl (lv_at hl 4 rfl) ?_
      have hPc := hP.sub (ws' := mW mo ma cs J9 G9m) [29, 30, 31, 32, 33, 34, 35, 36, 37, 38, 39, 40, 41, 42, 43, 44, 45, 46, 47, 48, 49, 50, 51, 52, 53, 54, 55, 56, 57] rfl
      have hDc := hD.sub (ws' := mW mo ma cs J9 G9m) [29, 30, 31, 32, 33, 34, 35, 36, 37, 38, 39, 40, 41, 42, 43, 44, 45, 46, 47, 48, 49, 50, 51, 52, 53, 54, 55, 56, 57] lq_1 rfl
      have hFc := va_free (wc := mW mo ma cs J9 G9m) hD hS hA [29, 30, 31, 32, 33, 34, 35, 36, 37, 38, 39, 40, 41, 42, 43, 44, 45, 46, 47, 48, 49, 50, 51, 52, 53, 54, 55, 56, 57] rfl
      have hKc := hK.sub (tys' := mT cs) [3, 4, 5, 6, 7, 8, 9, 10, 11, 12, 13, 14, 15, 16, 17, 18, 19, 20, 21, 22, 23, 24, 25, 26, 27, 28, 29, 30] rfl
      refine va_calli (va_runV (As := []) (rest := []) ⟨hx, hb, hml, hown, hts⟩ (k_thrown l dC dI mo ma cs J9 G9m  H.size hI9.1.hB) (cwV 0 hts (kx_gV kq_27_law_25 kq_27_law_26 kq_27_law_27 kq_04_msmall_6 kq_27_law_28 rfl) rfl rfl rfl (by decide +kernel) ⟨Nat.le_of_ble_eq_true rfl, Nat.le_of_ble_eq_true rfl⟩) ⟨kx_blind, va_recv hKc hPc (ci := 6) (q0 := 0) rfl rfl, kx_give (ws := []) (tys := []) hPc hDc hKc hG hZ hS hFc⟩ rfl rfl hl.1 rfl (lv_room (Nat.le_of_ble_eq_true rfl)) dL_law_306 ⟨show ((cells + dn9) + 0) + 0 ≤ 600384 from (Nat.le_trans hlc.2 (by decide)), show ((slots + dm9) + 0) + 0 ≤ 7291369 from (Nat.le_trans hls.2 (by decide))⟩) hS (fun q _ h => hFc q h) hFc (fun r u t H1 locs ht hvm hw hB hz1 hk1 hS => ?_)
      obtain ⟨rr10, J10, G10m⟩ := u
      obtain ⟨hP1, hK1, hD1⟩ := hB
      rw [ht] at hP1
      obtain ⟨e1, hw⟩ := hw
      subst e1
      try dsimp only at hw
      obtain ⟨hP, hD⟩ := va_joinQ (wr := xU cI cB cE o9 r9 n9 z9 F9 G9 (Eo9 0 0) ++ [(ou, .inl (cL, 1, .inr (.inl fo9)))]) (w1 := mW mo ma cs J10 G10m) hP hD [29, 30, 31, 32, 33, 34, 35, 36, 37, 38, 39, 40, 41, 42, 43, 44, 45, 46, 47, 48, 49, 50, 51, 52, 53, 54, 55, 56, 57] [0, 1, 2, 3, 4, 5, 6, 7, 8, 9, 10, 11, 12, 13, 14, 15, 16, 17, 18, 19, 20, 21, 22, 23, 24, 25, 26, 27, 28, 58] rfl rfl lq_0 lq_4 hk1 hFc hP1 hD1
      generalize H1 = H at hP hS ⊢
      have hP : va_P (dC, dI) kxCl (((xU cI cB cE o9 r9 n9 z9 F9 G9 (Eo9 0 0) ++ mW mo ma cs J10 G10m) ++ [(ou, .inl (cL, 1, .inr (.inl fo9)))]) ++ eP cI N9 Eo9 Er9 En9 Ez9 EF9) H := va_P.part (cx := ((xU cI cB cE o9 r9 n9 z9 F9 G9 (Eo9 0 0) ++ mW mo ma cs J10 G10m) ++ [(ou, .inl (cL, 1, .inr (.inl fo9)))])) hP [0, 1, 2, 3, 4, 5, 6, 7, 8, 9, 10, 11, 12, 13, 14, 15, 16, 17, 18, 19, 20, 21, 22, 23, 24, 25, 26, 27, 28, 30, 31, 32, 33, 34, 35, 36, 37, 38, 39, 40, 41, 42, 43, 44, 45, 46, 47, 48, 49, 50, 51, 52, 53, 54, 55, 56, 57, 58, 29] rfl
      have hD : va_D (fun q : Nat => s.heap.size ≤ q) (((xU cI cB cE o9 r9 n9 z9 F9 G9 (Eo9 0 0) ++ mW mo ma cs J10 G10m) ++ [(ou, .inl (cL, 1, .inr (.inl fo9)))]) ++ eP cI N9 Eo9 Er9 En9 Ez9 EF9) := va_D.part (cx := ((xU cI cB cE o9 r9 n9 z9 F9 G9 (Eo9 0 0) ++ mW mo ma cs J10 G10m) ++ [(ou, .inl (cL, 1, .inr (.inl fo9)))])) hD [0, 1, 2, 3, 4, 5, 6, 7, 8, 9, 10, 11, 12, 13, 14, 15, 16, 17, 18, 19, 20, 21, 22, 23, 24, 25, 26, 27, 28, 30, 31, 32, 33, 34, 35, 36, 37, 38, 39, 40, 41, 42, 43, 44, 45, 46, 47, 48, 49, 50, 51, 52, 53, 54, 55, 56, 57, 58, 29] lq_5 rfl
      obtain ⟨rfl, rfl, hth⟩ := hw
      have hP : va_P (dC, dI) kxCl (((xU cI cB cE o9 r9 n9 z9 F9 G9 (Eo9 0 0) ++ mW mo ma cs J9 G9m) ++ [(ou, .inl (cL, 1, .inr (.inl fo9)))]) ++ eP cI N9 Eo9 Er9 En9 Ez9 EF9) H := hP
      have hD : va_D (fun q : Nat => s.heap.size ≤ q) (((xU cI cB cE o9 r9 n9 z9 F9 G9 (Eo9 0 0) ++ mW mo ma cs J9 G9m) ++ [(ou, .inl (cL, 1, .inr (.inl fo9)))]) ++ eP cI N9 Eo9 Er9 En9 Ez9 EF9) := hD
      refine W.eq (g2 := F0 m 309 ls [.int (iz rr10)]) rfl ?_
      have hbd0 := hI9.1.hB.1 0
      refine lv_iload hx hb dL_law_309 (lv_at hl 1 rfl) ?_
      refine ki_icmp_eq (tgt := 316) hx hb dL_law_311 (by decide) (by omega) (by omega) (by omega) (by omega) (fun c_11 => ?_) (fun c_11 => ?_)
      · skip
        refine lv_iload hx hb dL_law_316 (lv_at hl 1 rfl) ?_
        refine ki_if_ne (tgt := 333) hx hb dL_law_318 (by decide) (by omega) (by omega) (fun c_12 => ?_) (fun c_12 => ?_)
        · skip
          refine lv_goto (tgt := 689) hx hb dL_law_333 (by decide) ?_
          exact kk o9 r9 n9 z9 F9 G9 N9 Eo9 Er9 En9 Ez9 EF9 fo9 J9 G9m H _ _ _ ls (ho9 15 (by decide) (by decide)) hok9 hxG9 hPE9 hI9 hR9 hP hD hS hlc.1 hls.1 (lv_sub hl [2, 3, 4, 5, 6] rfl)
        · skip
          refine lv_aload_n hx hb dL_law_321 rfl (lv_at hl 3 rfl) ?_
          refine lv_iconst (v := iz 0) hx hb dL_law_322 (by decide) ?_
          refine va_lald hx hb hK hP 58 31 rfl rfl (iz_in (by omega) (by omega) (by omega)) dL_law_323 ?_
          refine lv_iload hx hb dL_law_324 (lv_at hl 0 rfl) ?_
          refine lv_i2l (v := Int32.toInt64 (iz rr9)) hx hb dL_law_326 rfl ?_
          refine W.lcmp hx hb dL_law_327 ?_
          refine ki_is (show lg_cmp _ _ = iz 0 from kz_cmp (by rw [show (iz 0).toNatClampNeg = 0 by decide]; exact hans c_12)) ?_
          refine ki_if_eq (tgt := 333) hx hb dL_law_328 (by decide) (by omega) (by omega) (fun c_13 => ?_) (fun c_13 => ?_)
          · skip
            refine lv_goto (tgt := 689) hx hb dL_law_333 (by decide) ?_
            exact kk o9 r9 n9 z9 F9 G9 N9 Eo9 Er9 En9 Ez9 EF9 fo9 J9 G9m H _ _ _ ls (ho9 15 (by decide) (by decide)) hok9 hxG9 hPE9 hI9 hR9 hP hD hS hlc.1 hls.1 (lv_sub hl [2, 3, 4, 5, 6] rfl)
          · exact absurd rfl c_13
      · exact absurd (by omega) c_11
set_option maxHeartbeats 4000000 in
set_option maxRecDepth 100000 in
theorem law_see {p : Program} {l : Launch} {e : Env} {s : State} {m : MethodId} {below : List Frame} {meth : Method} {c : Code} {b : Nat} {dC : Nat → ClassId} {dI : Nat → Nat → Nat} {cI cB cE cL : ClassId} {cs : Nat → ClassId} {mo : Nat} {ma : Nat → Nat} {ou xr : Nat} {L : Nat} {xs : Nat → Int32} {k : Int} (hlf : l.stackTraces = false) (C0 : lw_At p s m meth c b L xs) (hL : L ≤ 256) (hk : 0 ≤ k ∧ 4 * k + 4 ≤ (L : Int)) (hK : va_K (dC, dI) kxCl (lT cI cB cE cL cs) s) (kk : LW p l e s m below meth c b dC dI cI cB cE cL cs mo ma ou xr k (k + 1) 689) : LW p l e s m below meth c b dC dI cI cB cE cL cs mo ma ou xr k k 336 := by
  obtain ⟨hx, hb, hr, hml, hown, hts0, hX, hbl, hlocks, hgv⟩ := id C0
  have hown : s.vm.findClass RL = some m.cls := hown
  have hA : ∀ q : Nat, s.heap.size ≤ q → (fun q : Nat => s.heap.size ≤ q) q := fun _ h => h
  have hbA : ¬ (fun q : Nat => s.heap.size ≤ q) b := Nat.not_le.mpr hbl
  have hG : kx_G s := ⟨s, _, hts0, hgv, State.WarmedH.refl s⟩
  have hZ : kx_Z (fun q : Nat => s.heap.size ≤ q) s s.heap := law_Z hts0 hgv
  have hts := kx_hts (a := #[Value.ref b]) hG
  intro o r n z F G N Eo Er En Ez EF fo I Fm H locs cells slots ls hxr hok hxG hPE hI hR hP hD hS hcl hsl hl
  subst hxr
  obtain ⟨hN1, hN2, hN3, hN4⟩ := id hxG
  have hz78 := hR.2.1
  have hk64 := hI.2.1.1
  have hk01 : 0 ≤ k ∧ k < 64 := by omega
  obtain ⟨a1, ea1, a1l, a1h⟩ := iz_of (xs (iz (4 * k + 1)).toNatClampNeg)
  obtain ⟨a2, ea2, a2l, a2h⟩ := iz_of (xs (iz (4 * k + 2)).toNatClampNeg)
  obtain ⟨a3, ea3, a3l, a3h⟩ := iz_of (xs (iz (4 * k + 3)).toNatClampNeg)
  refine lv_aload_n hx hb dL_law_336 rfl (lv_at hl 3 rfl) ?_
  refine lv_aload_n hx hb dL_law_337 rfl (lv_at hl 4 rfl) ?_
  refine lv_iload hx hb dL_law_338 (lv_at hl 0 rfl) ?_
  refine lv_iconst (v := iz 1) hx hb dL_law_340 (by decide) ?_
  refine ki_iadd hx hb dL_law_341 ?_
  refine va_sld hx hb hX hbl hbA hS (iz_in (by omega) (by omega) (by omega)) dL_law_342 ?_
  refine ki_is ea1 ?_
  refine lv_aload_n hx hb dL_law_343 rfl (lv_at hl 4 rfl) ?_
  refine lv_iload hx hb dL_law_344 (lv_at hl 0 rfl) ?_
  refine lv_iconst (v := iz 2) hx hb dL_law_346 (by decide) ?_
  refine ki_iadd hx hb dL_law_347 ?_
  refine va_sld hx hb hX hbl hbA hS (iz_in (by omega) (by omega) (by omega)) dL_law_348 ?_
  refine ki_is ea2 ?_
  refine lv_aload_n hx hb dL_law_349 rfl (lv_at hl 1 rfl) ?_
  have hPc : va_P (dC, dI) kxCl ((xU cI cB cE o r n z F G (Eo 0 0) ++ [(ou, .inl (cL, 1, .inr (.inl fo)))]) ++ eP cI N Eo Er En Ez EF) H := va_P.part (cx := xU cI cB cE o r n z F G (Eo 0 0) ++ [(ou, .inl (cL, 1, .inr (.inl fo)))]) hP [0, 1, 2, 3, 4, 5, 6, 7, 8, 9, 10, 11, 12, 13, 14, 15, 16, 17, 18, 19, 20, 21, 22, 23, 24, 25, 26, 27, 28, 58] rfl
  have hDc : va_D (fun q : Nat => s.heap.size ≤ q) ((xU cI cB cE o r n z F G (Eo 0 0) ++ [(ou, .inl (cL, 1, .inr (.inl fo)))]) ++ eP cI N Eo Er En Ez EF) := va_D.part (cx := xU cI cB cE o r n z F G (Eo 0 0) ++ [(ou, .inl (cL, 1, .inr (.inl fo)))]) hD [0, 1, 2, 3, 4, 5, 6, 7, 8, 9, 10, 11, 12, 13, 14, 15, 16, 17, 18, 19, 20, 21, 22, 23, 24, 25, 26, 27, 28, 58] lq_0 rfl
  have hFc := va_freeP (cx := xU cI cB cE o r n z F G (Eo 0 0) ++ [(ou, .inl (cL, 1, .inr (.inl fo)))]) hD hS hA [0, 1, 2, 3, 4, 5, 6, 7, 8, 9, 10, 11, 12, 13, 14, 15, 16, 17, 18, 19, 20, 21, 22, 23, 24, 25, 26, 27, 28, 58] rfl
  have hKc := hK.sub (tys' := [(cI, .int), (cB, .byte), (cE, .object RX0), (cL, .long)]) [0, 1, 2, 31] rfl
  refine xk_call (vx_runSW (As := [.ref (o 15), .int (iz a1), .int (iz a2), .ref ou]) (rest := []) ⟨hx, hb, hml, hown, hts⟩ (h_see l hlf dC dI cI cB cE cL o r n z F G N Eo Er En Ez EF ou fo a1 a2 H.size hok hxG hPE (by omega) (by omega) (by omega) (by omega)) (vx_cwSW 4 hts (kx_gS kq_27_law_29 kq_27_law_30 kq_27_law_2 kq_25_xhelp_26 rfl) rfl rfl rfl (by decide +kernel) ⟨Nat.le_of_ble_eq_true rfl, Nat.le_of_ble_eq_true rfl⟩) ⟨kx_blind, kx_give (ws := []) (tys := []) hPc hDc hKc hG hZ hS hFc⟩ rfl rfl hl.1 rfl (lv_room (Nat.le_of_ble_eq_true rfl)) dL_law_350 ⟨show cells + 150 ≤ 600384 from (by omega), show slots + 46000 ≤ 7291369 from (by omega)⟩) hS (fun q _ h => hFc q h) hFc (fun u dn9 dm9 t H1 locs ht hvm hq hB hk1 hS => ?_)
  obtain ⟨q9, fo9, o9, r9, n9, z9, F9, G9, N9, Eo9, Er9, En9, Ez9, EF9⟩ := u
  obtain ⟨hP1, hK1, hD1⟩ := hB
  rw [ht] at hP1
  try dsimp only at hq
  obtain ⟨hP, hD⟩ := va_joinP (wr := mW mo ma cs I Fm) (rx := xU cI cB cE o9 r9 n9 z9 F9 G9 (Eo9 0 0) ++ [(ou, .inl (cL, 1, .inr (.inl fo9)))]) (pl1 := eP cI N9 Eo9 Er9 En9 Ez9 EF9) hP hD [0, 1, 2, 3, 4, 5, 6, 7, 8, 9, 10, 11, 12, 13, 14, 15, 16, 17, 18, 19, 20, 21, 22, 23, 24, 25, 26, 27, 28, 58] [29, 30, 31, 32, 33, 34, 35, 36, 37, 38, 39, 40, 41, 42, 43, 44, 45, 46, 47, 48, 49, 50, 51, 52, 53, 54, 55, 56, 57] rfl rfl lq_1 lq_2 hk1 hFc hP1 hD1
  generalize H1 = H at hP hS ⊢
  have hP : va_P (dC, dI) kxCl (((xU cI cB cE o9 r9 n9 z9 F9 G9 (Eo9 0 0) ++ mW mo ma cs I Fm) ++ [(ou, .inl (cL, 1, .inr (.inl fo9)))]) ++ eP cI N9 Eo9 Er9 En9 Ez9 EF9) H := va_P.part (cx := ((xU cI cB cE o9 r9 n9 z9 F9 G9 (Eo9 0 0) ++ mW mo ma cs I Fm) ++ [(ou, .inl (cL, 1, .inr (.inl fo9)))])) hP [29, 30, 31, 32, 33, 34, 35, 36, 37, 38, 39, 40, 41, 42, 43, 44, 45, 46, 47, 48, 49, 50, 51, 52, 53, 54, 55, 56, 57, 0, 1, 2, 3, 4, 5, 6, 7, 8, 9, 10, 11, 12, 13, 14, 15, 16, 17, 18, 19, 20, 21, 22, 23, 24, 25, 26, 27, 28, 58] rfl
  have hD : va_D (fun q : Nat => s.heap.size ≤ q) (((xU cI cB cE o9 r9 n9 z9 F9 G9 (Eo9 0 0) ++ mW mo ma cs I Fm) ++ [(ou, .inl (cL, 1, .inr (.inl fo9)))]) ++ eP cI N9 Eo9 Er9 En9 Ez9 EF9) := va_D.part (cx := ((xU cI cB cE o9 r9 n9 z9 F9 G9 (Eo9 0 0) ++ mW mo ma cs I Fm) ++ [(ou, .inl (cL, 1, .inr (.inl fo9)))])) hD [29, 30, 31, 32, 33, 34, 35, 36, 37, 38, 39, 40, 41, 42, 43, 44, 45, 46, 47, 48, 49, 50, 51, 52, 53, 54, 55, 56, 57, 0, 1, 2, 3, 4, 5, 6, 7, 8, 9, 10, 11, 12, 13, 14, 15, 16, 17, 18, 19, 20, 21, 22, 23, 24, 25, 26, 27, 28, 58] lq_3 rfl
  obtain ⟨hok9, hxG9, hPE9, hcost, ho9, hrel⟩ := hq
  have hrelF := fun (_ : Unit) => hrel
  clear hrel
  have hlc := lcC hcl (Nat.le_trans hcost.1 (by decide)) hk01
  have hls := lcS hsl (Nat.le_trans hcost.2 (by decide)) hk01
  refine W.eq (g2 := F0 m 353 ls [.int (iz q9)]) rfl ?_
  refine lv_istore (lv' := [(5, .int (iz q9)), (4, .int (iz (4 * k))), (3, .ref ou), (2, .ref mo), (1, .ref (o 15)), (0, .ref b)]) hx hb dL_law_353 hl (by decide) rfl (fun ls hl => ?_)
  refine lv_aload_n hx hb dL_law_355 rfl (lv_at hl 3 rfl) ?_
  refine lv_aload_n hx hb dL_law_356 rfl (lv_at hl 5 rfl) ?_
  refine lv_iload hx hb dL_law_357 (lv_at hl 1 rfl) ?_
  refine lv_iconst (v := iz 1) hx hb dL_law_359 (by decide) ?_
  refine ki_iadd hx hb dL_law_360 ?_
  refine va_sld hx hb hX hbl hbA hS (iz_in (by omega) (by omega) (by omega)) dL_law_361 ?_
  refine ki_is ea1 ?_
  refine lv_aload_n hx hb dL_law_362 rfl (lv_at hl 5 rfl) ?_
  refine lv_iload hx hb dL_law_363 (lv_at hl 1 rfl) ?_
  refine lv_iconst (v := iz 2) hx hb dL_law_365 (by decide) ?_
  refine ki_iadd hx hb dL_law_366 ?_
  refine va_sld hx hb hX hbl hbA hS (iz_in (by omega) (by omega) (by omega)) dL_law_367 ?_
  refine ki_is ea2 ?_
  have hPc := hP.sub (ws' := mW mo ma cs I Fm) [29, 30, 31, 32, 33, 34, 35, 36, 37, 38, 39, 40, 41, 42, 43, 44, 45, 46, 47, 48, 49, 50, 51, 52, 53, 54, 55, 56, 57] rfl
  have hDc := hD.sub (ws' := mW mo ma cs I Fm) [29, 30, 31, 32, 33, 34, 35, 36, 37, 38, 39, 40, 41, 42, 43, 44, 45, 46, 47, 48, 49, 50, 51, 52, 53, 54, 55, 56, 57] lq_1 rfl
  have hFc := va_free (wc := mW mo ma cs I Fm) hD hS hA [29, 30, 31, 32, 33, 34, 35, 36, 37, 38, 39, 40, 41, 42, 43, 44, 45, 46, 47, 48, 49, 50, 51, 52, 53, 54, 55, 56, 57] rfl
  have hKc := hK.sub (tys' := mT cs) [3, 4, 5, 6, 7, 8, 9, 10, 11, 12, 13, 14, 15, 16, 17, 18, 19, 20, 21, 22, 23, 24, 25, 26, 27, 28, 29, 30] rfl
  refine va_calli (va_runV (As := [.int (iz a1), .int (iz a2)]) (rest := []) ⟨hx, hb, hml, hown, hts⟩ (k_see l dC dI mo ma cs I Fm a1 a2 H.size hI.1.hB hI.1.hc hI.1.hmy (by omega) (by omega) (by omega) (by omega)) (cwV 2 hts (kx_gV kq_27_law_31 kq_27_law_32 kq_27_law_33 kq_04_msmall_6 kq_27_law_34 rfl) rfl rfl rfl (by decide +kernel) ⟨Nat.le_of_ble_eq_true rfl, Nat.le_of_ble_eq_true rfl⟩) ⟨kx_blind, va_recv hKc hPc (ci := 6) (q0 := 0) rfl rfl, kx_give (ws := []) (tys := []) hPc hDc hKc hG hZ hS hFc⟩ rfl rfl hl.1 rfl (lv_room (Nat.le_of_ble_eq_true rfl)) dL_law_368 ⟨show (cells + dn9) + 0 ≤ 600384 from (Nat.le_trans hlc.2 (by decide)), show (slots + dm9) + 0 ≤ 7291369 from (Nat.le_trans hls.2 (by decide))⟩) hS (fun q _ h => hFc q h) hFc (fun r u t H1 locs ht hvm hw hB hz1 hk1 hS => ?_)
  obtain ⟨rr1, J1, G1m⟩ := u
  obtain ⟨hP1, hK1, hD1⟩ := hB
  rw [ht] at hP1
  obtain ⟨e1, hw⟩ := hw
  subst e1
  try dsimp only at hw
  obtain ⟨hP, hD⟩ := va_joinQ (wr := xU cI cB cE o9 r9 n9 z9 F9 G9 (Eo9 0 0) ++ [(ou, .inl (cL, 1, .inr (.inl fo9)))]) (w1 := mW mo ma cs J1 G1m) hP hD [29, 30, 31, 32, 33, 34, 35, 36, 37, 38, 39, 40, 41, 42, 43, 44, 45, 46, 47, 48, 49, 50, 51, 52, 53, 54, 55, 56, 57] [0, 1, 2, 3, 4, 5, 6, 7, 8, 9, 10, 11, 12, 13, 14, 15, 16, 17, 18, 19, 20, 21, 22, 23, 24, 25, 26, 27, 28, 58] rfl rfl lq_0 lq_4 hk1 hFc hP1 hD1
  generalize H1 = H at hP hS ⊢
  have hP : va_P (dC, dI) kxCl (((xU cI cB cE o9 r9 n9 z9 F9 G9 (Eo9 0 0) ++ mW mo ma cs J1 G1m) ++ [(ou, .inl (cL, 1, .inr (.inl fo9)))]) ++ eP cI N9 Eo9 Er9 En9 Ez9 EF9) H := va_P.part (cx := ((xU cI cB cE o9 r9 n9 z9 F9 G9 (Eo9 0 0) ++ mW mo ma cs J1 G1m) ++ [(ou, .inl (cL, 1, .inr (.inl fo9)))])) hP [0, 1, 2, 3, 4, 5, 6, 7, 8, 9, 10, 11, 12, 13, 14, 15, 16, 17, 18, 19, 20, 21, 22, 23, 24, 25, 26, 27, 28, 30, 31, 32, 33, 34, 35, 36, 37, 38, 39, 40, 41, 42, 43, 44, 45, 46, 47, 48, 49, 50, 51, 52, 53, 54, 55, 56, 57, 58, 29] rfl
  have hD : va_D (fun q : Nat => s.heap.size ≤ q) (((xU cI cB cE o9 r9 n9 z9 F9 G9 (Eo9 0 0) ++ mW mo ma cs J1 G1m) ++ [(ou, .inl (cL, 1, .inr (.inl fo9)))]) ++ eP cI N9 Eo9 Er9 En9 Ez9 EF9) := va_D.part (cx := ((xU cI cB cE o9 r9 n9 z9 F9 G9 (Eo9 0 0) ++ mW mo ma cs J1 G1m) ++ [(ou, .inl (cL, 1, .inr (.inl fo9)))])) hD [0, 1, 2, 3, 4, 5, 6, 7, 8, 9, 10, 11, 12, 13, 14, 15, 16, 17, 18, 19, 20, 21, 22, 23, 24, 25, 26, 27, 28, 30, 31, 32, 33, 34, 35, 36, 37, 38, 39, 40, 41, 42, 43, 44, 45, 46, 47, 48, 49, 50, 51, 52, 53, 54, 55, 56, 57, 58, 29] lq_5 rfl
  obtain ⟨hR9, hI9⟩ := st_see hI hk01.2 hR (hrelF ()) hw
  refine W.eq (g2 := F0 m 371 ls [.int (iz rr1)]) rfl ?_
  refine lv_istore (lv' := [(6, .int (iz rr1)), (5, .int (iz q9)), (4, .int (iz (4 * k))), (3, .ref ou), (2, .ref mo), (1, .ref (o 15)), (0, .ref b)]) hx hb dL_law_371 hl (by decide) rfl (fun ls hl => ?_)
  refine lv_goto (tgt := 689) hx hb dL_law_373 (by decide) ?_
  exact kk o9 r9 n9 z9 F9 G9 N9 Eo9 Er9 En9 Ez9 EF9 fo9 J1 G1m H _ _ _ ls (ho9 15 (by decide) (by decide)) hok9 hxG9 hPE9 hI9 hR9 hP hD hS hlc.1 hls.1 (lv_sub hl [2, 3, 4, 5, 6] rfl)
set_option maxHeartbeats 4000000 in
set_option maxRecDepth 100000 in
theorem law_rule {p : Program} {l : Launch} {e : Env} {s : State} {m : MethodId} {below : List Frame} {meth : Method} {c : Code} {b : Nat} {dC : Nat → ClassId} {dI : Nat → Nat → Nat} {cI cB cE cL : ClassId} {cs : Nat → ClassId} {mo : Nat} {ma : Nat → Nat} {ou xr : Nat} {L : Nat} {xs : Nat → Int32} {k : Int} (hlf : l.stackTraces = false) (C0 : lw_At p s m meth c b L xs) (hL : L ≤ 256) (hk : 0 ≤ k ∧ 4 * k + 4 ≤ (L : Int)) (hK : va_K (dC, dI) kxCl (lT cI cB cE cL cs) s) (kk : LW p l e s m below meth c b dC dI cI cB cE cL cs mo ma ou xr k (k + 1) 689) : LW p l e s m below meth c b dC dI cI cB cE cL cs mo ma ou xr k k 376 := by
  obtain ⟨hx, hb, hr, hml, hown, hts0, hX, hbl, hlocks, hgv⟩ := id C0
  have hown : s.vm.findClass RL = some m.cls := hown
  have hA : ∀ q : Nat, s.heap.size ≤ q → (fun q : Nat => s.heap.size ≤ q) q := fun _ h => h
  have hbA : ¬ (fun q : Nat => s.heap.size ≤ q) b := Nat.not_le.mpr hbl
  have hG : kx_G s := ⟨s, _, hts0, hgv, State.WarmedH.refl s⟩
  have hZ : kx_Z (fun q : Nat => s.heap.size ≤ q) s s.heap := law_Z hts0 hgv
  have hts := kx_hts (a := #[Value.ref b]) hG
  intro o r n z F G N Eo Er En Ez EF fo I Fm H locs cells slots ls hxr hok hxG hPE hI hR hP hD hS hcl hsl hl
  subst hxr
  obtain ⟨hN1, hN2, hN3, hN4⟩ := id hxG
  have hz78 := hR.2.1
  have hk64 := hI.2.1.1
  have hk01 : 0 ≤ k ∧ k < 64 := by omega
  obtain ⟨a1, ea1, a1l, a1h⟩ := iz_of (xs (iz (4 * k + 1)).toNatClampNeg)
  obtain ⟨a2, ea2, a2l, a2h⟩ := iz_of (xs (iz (4 * k + 2)).toNatClampNeg)
  obtain ⟨a3, ea3, a3l, a3h⟩ := iz_of (xs (iz (4 * k + 3)).toNatClampNeg)
  refine lv_aload_n hx hb dL_law_376 rfl (lv_at hl 3 rfl) ?_
  refine lv_aload_n hx hb dL_law_377 rfl (lv_at hl 4 rfl) ?_
  refine lv_iload hx hb dL_law_378 (lv_at hl 0 rfl) ?_
  refine lv_iconst (v := iz 1) hx hb dL_law_380 (by decide) ?_
  refine ki_iadd hx hb dL_law_381 ?_
  refine va_sld hx hb hX hbl hbA hS (iz_in (by omega) (by omega) (by omega)) dL_law_382 ?_
  refine ki_is ea1 ?_
  refine lv_aload_n hx hb dL_law_383 rfl (lv_at hl 4 rfl) ?_
  refine lv_iload hx hb dL_law_384 (lv_at hl 0 rfl) ?_
  refine lv_iconst (v := iz 2) hx hb dL_law_386 (by decide) ?_
  refine ki_iadd hx hb dL_law_387 ?_
  refine va_sld hx hb hX hbl hbA hS (iz_in (by omega) (by omega) (by omega)) dL_law_388 ?_
  refine ki_is ea2 ?_
  refine ki_if_eq (tgt := 396) hx hb dL_law_389 (by decide) (by omega) (by omega) (fun c_1 => ?_) (fun c_1 => ?_)
  · skip
    refine lv_iconst (v := iz 0) hx hb dL_law_396 (by decide) ?_
    refine lv_aload_n hx hb dL_law_397 rfl (lv_at hl 1 rfl) ?_
    have hPc : va_P (dC, dI) kxCl ((xU cI cB cE o r n z F G (Eo 0 0) ++ [(ou, .inl (cL, 1, .inr (.inl fo)))]) ++ eP cI N Eo Er En Ez EF) H := va_P.part (cx := xU cI cB cE o r n z F G (Eo 0 0) ++ [(ou, .inl (cL, 1, .inr (.inl fo)))]) hP [0, 1, 2, 3, 4, 5, 6, 7, 8, 9, 10, 11, 12, 13, 14, 15, 16, 17, 18, 19, 20, 21, 22, 23, 24, 25, 26, 27, 28, 58] rfl
    have hDc : va_D (fun q : Nat => s.heap.size ≤ q) ((xU cI cB cE o r n z F G (Eo 0 0) ++ [(ou, .inl (cL, 1, .inr (.inl fo)))]) ++ eP cI N Eo Er En Ez EF) := va_D.part (cx := xU cI cB cE o r n z F G (Eo 0 0) ++ [(ou, .inl (cL, 1, .inr (.inl fo)))]) hD [0, 1, 2, 3, 4, 5, 6, 7, 8, 9, 10, 11, 12, 13, 14, 15, 16, 17, 18, 19, 20, 21, 22, 23, 24, 25, 26, 27, 28, 58] lq_0 rfl
    have hFc := va_freeP (cx := xU cI cB cE o r n z F G (Eo 0 0) ++ [(ou, .inl (cL, 1, .inr (.inl fo)))]) hD hS hA [0, 1, 2, 3, 4, 5, 6, 7, 8, 9, 10, 11, 12, 13, 14, 15, 16, 17, 18, 19, 20, 21, 22, 23, 24, 25, 26, 27, 28, 58] rfl
    have hKc := hK.sub (tys' := [(cI, .int), (cB, .byte), (cE, .object RX0), (cL, .long)]) [0, 1, 2, 31] rfl
    refine xk_call (vx_runSW (As := [.ref (o 15), .int (iz a1), .int (iz 0), .ref ou]) (rest := []) ⟨hx, hb, hml, hown, hts⟩ (h_rule l hlf dC dI cI cB cE cL o r n z F G N Eo Er En Ez EF ou fo a1 0 H.size hok hxG hPE (by omega) (by omega) (by omega)) (vx_cwSW 4 hts (kx_gS kq_27_law_35 kq_27_law_36 kq_27_law_2 kq_25_xhelp_31 rfl) rfl rfl rfl (by decide +kernel) ⟨Nat.le_of_ble_eq_true rfl, Nat.le_of_ble_eq_true rfl⟩) ⟨kx_blind, kx_give (ws := []) (tys := []) hPc hDc hKc hG hZ hS hFc⟩ rfl rfl hl.1 rfl (lv_room (Nat.le_of_ble_eq_true rfl)) dL_law_398 ⟨show cells + 1000 ≤ 600384 from (by omega), show slots + 60000 ≤ 7291369 from (by omega)⟩) hS (fun q _ h => hFc q h) hFc (fun u dn9 dm9 t H1 locs ht hvm hq hB hk1 hS => ?_)
    obtain ⟨q9, fo9, o9, r9, n9, z9, F9, G9, N9, Eo9, Er9, En9, Ez9, EF9⟩ := u
    obtain ⟨hP1, hK1, hD1⟩ := hB
    rw [ht] at hP1
    try dsimp only at hq
    obtain ⟨hP, hD⟩ := va_joinP (wr := mW mo ma cs I Fm) (rx := xU cI cB cE o9 r9 n9 z9 F9 G9 (Eo9 0 0) ++ [(ou, .inl (cL, 1, .inr (.inl fo9)))]) (pl1 := eP cI N9 Eo9 Er9 En9 Ez9 EF9) hP hD [0, 1, 2, 3, 4, 5, 6, 7, 8, 9, 10, 11, 12, 13, 14, 15, 16, 17, 18, 19, 20, 21, 22, 23, 24, 25, 26, 27, 28, 58] [29, 30, 31, 32, 33, 34, 35, 36, 37, 38, 39, 40, 41, 42, 43, 44, 45, 46, 47, 48, 49, 50, 51, 52, 53, 54, 55, 56, 57] rfl rfl lq_1 lq_2 hk1 hFc hP1 hD1
    generalize H1 = H at hP hS ⊢
    have hP : va_P (dC, dI) kxCl (((xU cI cB cE o9 r9 n9 z9 F9 G9 (Eo9 0 0) ++ mW mo ma cs I Fm) ++ [(ou, .inl (cL, 1, .inr (.inl fo9)))]) ++ eP cI N9 Eo9 Er9 En9 Ez9 EF9) H := va_P.part (cx := ((xU cI cB cE o9 r9 n9 z9 F9 G9 (Eo9 0 0) ++ mW mo ma cs I Fm) ++ [(ou, .inl (cL, 1, .inr (.inl fo9)))])) hP [29, 30, 31, 32, 33, 34, 35, 36, 37, 38, 39, 40, 41, 42, 43, 44, 45, 46, 47, 48, 49, 50, 51, 52, 53, 54, 55, 56, 57, 0, 1, 2, 3, 4, 5, 6, 7, 8, 9, 10, 11, 12, 13, 14, 15, 16, 17, 18, 19, 20, 21, 22, 23, 24, 25, 26, 27, 28, 58] rfl
    have hD : va_D (fun q : Nat => s.heap.size ≤ q) (((xU cI cB cE o9 r9 n9 z9 F9 G9 (Eo9 0 0) ++ mW mo ma cs I Fm) ++ [(ou, .inl (cL, 1, .inr (.inl fo9)))]) ++ eP cI N9 Eo9 Er9 En9 Ez9 EF9) := va_D.part (cx := ((xU cI cB cE o9 r9 n9 z9 F9 G9 (Eo9 0 0) ++ mW mo ma cs I Fm) ++ [(ou, .inl (cL, 1, .inr (.inl fo9)))])) hD [29, 30, 31, 32, 33, 34, 35, 36, 37, 38, 39, 40, 41, 42, 43, 44, 45, 46, 47, 48, 49, 50, 51, 52, 53, 54, 55, 56, 57, 0, 1, 2, 3, 4, 5, 6, 7, 8, 9, 10, 11, 12, 13, 14, 15, 16, 17, 18, 19, 20, 21, 22, 23, 24, 25, 26, 27, 28, 58] lq_3 rfl
    obtain ⟨hok9, hxG9, hPE9, hcost, ho9, hrel⟩ := hq
    have hrelF := fun (_ : Unit) => hrel
    clear hrel
    have hlc := lcC hcl (Nat.le_trans hcost.1 (by decide)) hk01
    have hls := lcS hsl (Nat.le_trans hcost.2 (by decide)) hk01
    refine W.eq (g2 := F0 m 401 ls [.int (iz q9)]) rfl ?_
    refine lv_istore (lv' := [(5, .int (iz q9)), (4, .int (iz (4 * k))), (3, .ref ou), (2, .ref mo), (1, .ref (o 15)), (0, .ref b)]) hx hb dL_law_401 hl (by decide) rfl (fun ls hl => ?_)
    refine lv_aload_n hx hb dL_law_403 rfl (lv_at hl 3 rfl) ?_
    refine lv_aload_n hx hb dL_law_404 rfl (lv_at hl 5 rfl) ?_
    refine lv_iload hx hb dL_law_405 (lv_at hl 1 rfl) ?_
    refine lv_iconst (v := iz 1) hx hb dL_law_407 (by decide) ?_
    refine ki_iadd hx hb dL_law_408 ?_
    refine va_sld hx hb hX hbl hbA hS (iz_in (by omega) (by omega) (by omega)) dL_law_409 ?_
    refine ki_is ea1 ?_
    refine lv_aload_n hx hb dL_law_410 rfl (lv_at hl 5 rfl) ?_
    refine lv_iload hx hb dL_law_411 (lv_at hl 1 rfl) ?_
    refine lv_iconst (v := iz 2) hx hb dL_law_413 (by decide) ?_
    refine ki_iadd hx hb dL_law_414 ?_
    refine va_sld hx hb hX hbl hbA hS (iz_in (by omega) (by omega) (by omega)) dL_law_415 ?_
    refine ki_is ea2 ?_
    refine ki_if_eq (tgt := 423) hx hb dL_law_416 (by decide) (by omega) (by omega) (fun c_2 => ?_) (fun c_2 => ?_)
    · skip
      refine lv_iconst (v := iz 0) hx hb dL_law_423 (by decide) ?_
      have hPc := hP.sub (ws' := mW mo ma cs I Fm) [29, 30, 31, 32, 33, 34, 35, 36, 37, 38, 39, 40, 41, 42, 43, 44, 45, 46, 47, 48, 49, 50, 51, 52, 53, 54, 55, 56, 57] rfl
      have hDc := hD.sub (ws' := mW mo ma cs I Fm) [29, 30, 31, 32, 33, 34, 35, 36, 37, 38, 39, 40, 41, 42, 43, 44, 45, 46, 47, 48, 49, 50, 51, 52, 53, 54, 55, 56, 57] lq_1 rfl
      have hFc := va_free (wc := mW mo ma cs I Fm) hD hS hA [29, 30, 31, 32, 33, 34, 35, 36, 37, 38, 39, 40, 41, 42, 43, 44, 45, 46, 47, 48, 49, 50, 51, 52, 53, 54, 55, 56, 57] rfl
      have hKc := hK.sub (tys' := mT cs) [3, 4, 5, 6, 7, 8, 9, 10, 11, 12, 13, 14, 15, 16, 17, 18, 19, 20, 21, 22, 23, 24, 25, 26, 27, 28, 29, 30] rfl
      refine va_calli (va_runV (As := [.int (iz a1), .int (iz 0)]) (rest := []) ⟨hx, hb, hml, hown, hts⟩ (k_rule l dC dI mo ma cs I Fm a1 0 H.size hI.1.hB hI.2.2.2.1 hI.2.2.2.2 (by omega) (by omega) (by omega)) (cwV 2 hts (kx_gV kq_27_law_37 kq_27_law_38 kq_27_law_39 kq_04_msmall_6 kq_27_law_40 rfl) rfl rfl rfl (by decide +kernel) ⟨Nat.le_of_ble_eq_true rfl, Nat.le_of_ble_eq_true rfl⟩) ⟨kx_blind, va_recv hKc hPc (ci := 6) (q0 := 0) rfl rfl, kx_give (ws := []) (tys := []) hPc hDc hKc hG hZ hS hFc⟩ rfl rfl hl.1 rfl (lv_room (Nat.le_of_ble_eq_true rfl)) dL_law_424 ⟨show (cells + dn9) + 0 ≤ 600384 from (Nat.le_trans hlc.2 (by decide)), show (slots + dm9) + 0 ≤ 7291369 from (Nat.le_trans hls.2 (by decide))⟩) hS (fun q _ h => hFc q h) hFc (fun r u t H1 locs ht hvm hw hB hz1 hk1 hS => ?_)
      obtain ⟨rr3, J3, G3m⟩ := u
      obtain ⟨hP1, hK1, hD1⟩ := hB
      rw [ht] at hP1
      obtain ⟨e1, hw⟩ := hw
      subst e1
      try dsimp only at hw
      obtain ⟨hP, hD⟩ := va_joinQ (wr := xU cI cB cE o9 r9 n9 z9 F9 G9 (Eo9 0 0) ++ [(ou, .inl (cL, 1, .inr (.inl fo9)))]) (w1 := mW mo ma cs J3 G3m) hP hD [29, 30, 31, 32, 33, 34, 35, 36, 37, 38, 39, 40, 41, 42, 43, 44, 45, 46, 47, 48, 49, 50, 51, 52, 53, 54, 55, 56, 57] [0, 1, 2, 3, 4, 5, 6, 7, 8, 9, 10, 11, 12, 13, 14, 15, 16, 17, 18, 19, 20, 21, 22, 23, 24, 25, 26, 27, 28, 58] rfl rfl lq_0 lq_4 hk1 hFc hP1 hD1
      generalize H1 = H at hP hS ⊢
      have hP : va_P (dC, dI) kxCl (((xU cI cB cE o9 r9 n9 z9 F9 G9 (Eo9 0 0) ++ mW mo ma cs J3 G3m) ++ [(ou, .inl (cL, 1, .inr (.inl fo9)))]) ++ eP cI N9 Eo9 Er9 En9 Ez9 EF9) H := va_P.part (cx := ((xU cI cB cE o9 r9 n9 z9 F9 G9 (Eo9 0 0) ++ mW mo ma cs J3 G3m) ++ [(ou, .inl (cL, 1, .inr (.inl fo9)))])) hP [0, 1, 2, 3, 4, 5, 6, 7, 8, 9, 10, 11, 12, 13, 14, 15, 16, 17, 18, 19, 20, 21, 22, 23, 24, 25, 26, 27, 28, 30, 31, 32, 33, 34, 35, 36, 37, 38, 39, 40, 41, 42, 43, 44, 45, 46, 47, 48, 49, 50, 51, 52, 53, 54, 55, 56, 57, 58, 29] rfl
      have hD : va_D (fun q : Nat => s.heap.size ≤ q) (((xU cI cB cE o9 r9 n9 z9 F9 G9 (Eo9 0 0) ++ mW mo ma cs J3 G3m) ++ [(ou, .inl (cL, 1, .inr (.inl fo9)))]) ++ eP cI N9 Eo9 Er9 En9 Ez9 EF9) := va_D.part (cx := ((xU cI cB cE o9 r9 n9 z9 F9 G9 (Eo9 0 0) ++ mW mo ma cs J3 G3m) ++ [(ou, .inl (cL, 1, .inr (.inl fo9)))])) hD [0, 1, 2, 3, 4, 5, 6, 7, 8, 9, 10, 11, 12, 13, 14, 15, 16, 17, 18, 19, 20, 21, 22, 23, 24, 25, 26, 27, 28, 30, 31, 32, 33, 34, 35, 36, 37, 38, 39, 40, 41, 42, 43, 44, 45, 46, 47, 48, 49, 50, 51, 52, 53, 54, 55, 56, 57, 58, 29] lq_5 rfl
      obtain ⟨hcode, hans, hR9, hI9⟩ := st_rule hI hk01.2 hR (by decide) (hrelF ()) hw
      refine W.eq (g2 := F0 m 427 ls [.int (iz rr3)]) rfl ?_
      have hbq := hI9.1.hB.1 0
      refine lv_istore (lv' := [(6, .int (iz rr3)), (5, .int (iz q9)), (4, .int (iz (4 * k))), (3, .ref ou), (2, .ref mo), (1, .ref (o 15)), (0, .ref b)]) hx hb dL_law_427 hl (by decide) rfl (fun ls hl => ?_)
      refine lv_goto (tgt := 689) hx hb dL_law_429 (by decide) ?_
      exact kk o9 r9 n9 z9 F9 G9 N9 Eo9 Er9 En9 Ez9 EF9 fo9 J3 G3m H _ _ _ ls (ho9 15 (by decide) (by decide)) hok9 hxG9 hPE9 hI9 hR9 hP hD hS hlc.1 hls.1 (lv_sub hl [2, 3, 4, 5, 6] rfl)
    · omega
  · skip
    refine lv_iconst (v := iz 1) hx hb dL_law_392 (by decide) ?_
    refine lv_goto (tgt := 397) hx hb dL_law_393 (by decide) ?_
    refine lv_aload_n hx hb dL_law_397 rfl (lv_at hl 1 rfl) ?_
    have hPc : va_P (dC, dI) kxCl ((xU cI cB cE o r n z F G (Eo 0 0) ++ [(ou, .inl (cL, 1, .inr (.inl fo)))]) ++ eP cI N Eo Er En Ez EF) H := va_P.part (cx := xU cI cB cE o r n z F G (Eo 0 0) ++ [(ou, .inl (cL, 1, .inr (.inl fo)))]) hP [0, 1, 2, 3, 4, 5, 6, 7, 8, 9, 10, 11, 12, 13, 14, 15, 16, 17, 18, 19, 20, 21, 22, 23, 24, 25, 26, 27, 28, 58] rfl
    have hDc : va_D (fun q : Nat => s.heap.size ≤ q) ((xU cI cB cE o r n z F G (Eo 0 0) ++ [(ou, .inl (cL, 1, .inr (.inl fo)))]) ++ eP cI N Eo Er En Ez EF) := va_D.part (cx := xU cI cB cE o r n z F G (Eo 0 0) ++ [(ou, .inl (cL, 1, .inr (.inl fo)))]) hD [0, 1, 2, 3, 4, 5, 6, 7, 8, 9, 10, 11, 12, 13, 14, 15, 16, 17, 18, 19, 20, 21, 22, 23, 24, 25, 26, 27, 28, 58] lq_0 rfl
    have hFc := va_freeP (cx := xU cI cB cE o r n z F G (Eo 0 0) ++ [(ou, .inl (cL, 1, .inr (.inl fo)))]) hD hS hA [0, 1, 2, 3, 4, 5, 6, 7, 8, 9, 10, 11, 12, 13, 14, 15, 16, 17, 18, 19, 20, 21, 22, 23, 24, 25, 26, 27, 28, 58] rfl
    have hKc := hK.sub (tys' := [(cI, .int), (cB, .byte), (cE, .object RX0), (cL, .long)]) [0, 1, 2, 31] rfl
    refine xk_call (vx_runSW (As := [.ref (o 15), .int (iz a1), .int (iz 1), .ref ou]) (rest := []) ⟨hx, hb, hml, hown, hts⟩ (h_rule l hlf dC dI cI cB cE cL o r n z F G N Eo Er En Ez EF ou fo a1 1 H.size hok hxG hPE (by omega) (by omega) (by omega)) (vx_cwSW 4 hts (kx_gS kq_27_law_35 kq_27_law_36 kq_27_law_2 kq_25_xhelp_31 rfl) rfl rfl rfl (by decide +kernel) ⟨Nat.le_of_ble_eq_true rfl, Nat.le_of_ble_eq_true rfl⟩) ⟨kx_blind, kx_give (ws := []) (tys := []) hPc hDc hKc hG hZ hS hFc⟩ rfl rfl hl.1 rfl (lv_room (Nat.le_of_ble_eq_true rfl)) dL_law_398 ⟨show cells + 1000 ≤ 600384 from (by omega), show slots + 60000 ≤ 7291369 from (by omega)⟩) hS (fun q _ h => hFc q h) hFc (fun u dn9 dm9 t H1 locs ht hvm hq hB hk1 hS => ?_)
    obtain ⟨q9, fo9, o9, r9, n9, z9, F9, G9, N9, Eo9, Er9, En9, Ez9, EF9⟩ := u
    obtain ⟨hP1, hK1, hD1⟩ := hB
    rw [ht] at hP1
    try dsimp only at hq
    obtain ⟨hP, hD⟩ := va_joinP (wr := mW mo ma cs I Fm) (rx := xU cI cB cE o9 r9 n9 z9 F9 G9 (Eo9 0 0) ++ [(ou, .inl (cL, 1, .inr (.inl fo9)))]) (pl1 := eP cI N9 Eo9 Er9 En9 Ez9 EF9) hP hD [0, 1, 2, 3, 4, 5, 6, 7, 8, 9, 10, 11, 12, 13, 14, 15, 16, 17, 18, 19, 20, 21, 22, 23, 24, 25, 26, 27, 28, 58] [29, 30, 31, 32, 33, 34, 35, 36, 37, 38, 39, 40, 41, 42, 43, 44, 45, 46, 47, 48, 49, 50, 51, 52, 53, 54, 55, 56, 57] rfl rfl lq_1 lq_2 hk1 hFc hP1 hD1
    generalize H1 = H at hP hS ⊢
    have hP : va_P (dC, dI) kxCl (((xU cI cB cE o9 r9 n9 z9 F9 G9 (Eo9 0 0) ++ mW mo ma cs I Fm) ++ [(ou, .inl (cL, 1, .inr (.inl fo9)))]) ++ eP cI N9 Eo9 Er9 En9 Ez9 EF9) H := va_P.part (cx := ((xU cI cB cE o9 r9 n9 z9 F9 G9 (Eo9 0 0) ++ mW mo ma cs I Fm) ++ [(ou, .inl (cL, 1, .inr (.inl fo9)))])) hP [29, 30, 31, 32, 33, 34, 35, 36, 37, 38, 39, 40, 41, 42, 43, 44, 45, 46, 47, 48, 49, 50, 51, 52, 53, 54, 55, 56, 57, 0, 1, 2, 3, 4, 5, 6, 7, 8, 9, 10, 11, 12, 13, 14, 15, 16, 17, 18, 19, 20, 21, 22, 23, 24, 25, 26, 27, 28, 58] rfl
    have hD : va_D (fun q : Nat => s.heap.size ≤ q) (((xU cI cB cE o9 r9 n9 z9 F9 G9 (Eo9 0 0) ++ mW mo ma cs I Fm) ++ [(ou, .inl (cL, 1, .inr (.inl fo9)))]) ++ eP cI N9 Eo9 Er9 En9 Ez9 EF9) := va_D.part (cx := ((xU cI cB cE o9 r9 n9 z9 F9 G9 (Eo9 0 0) ++ mW mo ma cs I Fm) ++ [(ou, .inl (cL, 1, .inr (.inl fo9)))])) hD [29, 30, 31, 32, 33, 34, 35, 36, 37, 38, 39, 40, 41, 42, 43, 44, 45, 46, 47, 48, 49, 50, 51, 52, 53, 54, 55, 56, 57, 0, 1, 2, 3, 4, 5, 6, 7, 8, 9, 10, 11, 12, 13, 14, 15, 16, 17, 18, 19, 20, 21, 22, 23, 24, 25, 26, 27, 28, 58] lq_3 rfl
    obtain ⟨hok9, hxG9, hPE9, hcost, ho9, hrel⟩ := hq
    have hrelF := fun (_ : Unit) => hrel
    clear hrel
    have hlc := lcC hcl (Nat.le_trans hcost.1 (by decide)) hk01
    have hls := lcS hsl (Nat.le_trans hcost.2 (by decide)) hk01
    refine W.eq (g2 := F0 m 401 ls [.int (iz q9)]) rfl ?_
    refine lv_istore (lv' := [(5, .int (iz q9)), (4, .int (iz (4 * k))), (3, .ref ou), (2, .ref mo), (1, .ref (o 15)), (0, .ref b)]) hx hb dL_law_401 hl (by decide) rfl (fun ls hl => ?_)
    refine lv_aload_n hx hb dL_law_403 rfl (lv_at hl 3 rfl) ?_
    refine lv_aload_n hx hb dL_law_404 rfl (lv_at hl 5 rfl) ?_
    refine lv_iload hx hb dL_law_405 (lv_at hl 1 rfl) ?_
    refine lv_iconst (v := iz 1) hx hb dL_law_407 (by decide) ?_
    refine ki_iadd hx hb dL_law_408 ?_
    refine va_sld hx hb hX hbl hbA hS (iz_in (by omega) (by omega) (by omega)) dL_law_409 ?_
    refine ki_is ea1 ?_
    refine lv_aload_n hx hb dL_law_410 rfl (lv_at hl 5 rfl) ?_
    refine lv_iload hx hb dL_law_411 (lv_at hl 1 rfl) ?_
    refine lv_iconst (v := iz 2) hx hb dL_law_413 (by decide) ?_
    refine ki_iadd hx hb dL_law_414 ?_
    refine va_sld hx hb hX hbl hbA hS (iz_in (by omega) (by omega) (by omega)) dL_law_415 ?_
    refine ki_is ea2 ?_
    refine ki_if_eq (tgt := 423) hx hb dL_law_416 (by decide) (by omega) (by omega) (fun c_4 => ?_) (fun c_4 => ?_)
    · omega
    · skip
      refine lv_iconst (v := iz 1) hx hb dL_law_419 (by decide) ?_
      refine lv_goto (tgt := 424) hx hb dL_law_420 (by decide) ?_
      have hPc := hP.sub (ws' := mW mo ma cs I Fm) [29, 30, 31, 32, 33, 34, 35, 36, 37, 38, 39, 40, 41, 42, 43, 44, 45, 46, 47, 48, 49, 50, 51, 52, 53, 54, 55, 56, 57] rfl
      have hDc := hD.sub (ws' := mW mo ma cs I Fm) [29, 30, 31, 32, 33, 34, 35, 36, 37, 38, 39, 40, 41, 42, 43, 44, 45, 46, 47, 48, 49, 50, 51, 52, 53, 54, 55, 56, 57] lq_1 rfl
      have hFc := va_free (wc := mW mo ma cs I Fm) hD hS hA [29, 30, 31, 32, 33, 34, 35, 36, 37, 38, 39, 40, 41, 42, 43, 44, 45, 46, 47, 48, 49, 50, 51, 52, 53, 54, 55, 56, 57] rfl
      have hKc := hK.sub (tys' := mT cs) [3, 4, 5, 6, 7, 8, 9, 10, 11, 12, 13, 14, 15, 16, 17, 18, 19, 20, 21, 22, 23, 24, 25, 26, 27, 28, 29, 30] rfl
      refine va_calli (va_runV (As := [.int (iz a1), .int (iz 1)]) (rest := []) ⟨hx, hb, hml, hown, hts⟩ (k_rule l dC dI mo ma cs I Fm a1 1 H.size hI.1.hB hI.2.2.2.1 hI.2.2.2.2 (by omega) (by omega) (by omega)) (cwV 2 hts (kx_gV kq_27_law_37 kq_27_law_38 kq_27_law_39 kq_04_msmall_6 kq_27_law_40 rfl) rfl rfl rfl (by decide +kernel) ⟨Nat.le_of_ble_eq_true rfl, Nat.le_of_ble_eq_true rfl⟩) ⟨kx_blind, va_recv hKc hPc (ci := 6) (q0 := 0) rfl rfl, kx_give (ws := []) (tys := []) hPc hDc hKc hG hZ hS hFc⟩ rfl rfl hl.1 rfl (lv_room (Nat.le_of_ble_eq_true rfl)) dL_law_424 ⟨show (cells + dn9) + 0 ≤ 600384 from (Nat.le_trans hlc.2 (by decide)), show (slots + dm9) + 0 ≤ 7291369 from (Nat.le_trans hls.2 (by decide))⟩) hS (fun q _ h => hFc q h) hFc (fun r u t H1 locs ht hvm hw hB hz1 hk1 hS => ?_)
      obtain ⟨rr5, J5, G5m⟩ := u
      obtain ⟨hP1, hK1, hD1⟩ := hB
      rw [ht] at hP1
      obtain ⟨e1, hw⟩ := hw
      subst e1
      try dsimp only at hw
      obtain ⟨hP, hD⟩ := va_joinQ (wr := xU cI cB cE o9 r9 n9 z9 F9 G9 (Eo9 0 0) ++ [(ou, .inl (cL, 1, .inr (.inl fo9)))]) (w1 := mW mo ma cs J5 G5m) hP hD [29, 30, 31, 32, 33, 34, 35, 36, 37, 38, 39, 40, 41, 42, 43, 44, 45, 46, 47, 48, 49, 50, 51, 52, 53, 54, 55, 56, 57] [0, 1, 2, 3, 4, 5, 6, 7, 8, 9, 10, 11, 12, 13, 14, 15, 16, 17, 18, 19, 20, 21, 22, 23, 24, 25, 26, 27, 28, 58] rfl rfl lq_0 lq_4 hk1 hFc hP1 hD1
      generalize H1 = H at hP hS ⊢
      have hP : va_P (dC, dI) kxCl (((xU cI cB cE o9 r9 n9 z9 F9 G9 (Eo9 0 0) ++ mW mo ma cs J5 G5m) ++ [(ou, .inl (cL, 1, .inr (.inl fo9)))]) ++ eP cI N9 Eo9 Er9 En9 Ez9 EF9) H := va_P.part (cx := ((xU cI cB cE o9 r9 n9 z9 F9 G9 (Eo9 0 0) ++ mW mo ma cs J5 G5m) ++ [(ou, .inl (cL, 1, .inr (.inl fo9)))])) hP [0, 1, 2, 3, 4, 5, 6, 7, 8, 9, 10, 11, 12, 13, 14, 15, 16, 17, 18, 19, 20, 21, 22, 23, 24, 25, 26, 27, 28, 30, 31, 32, 33, 34, 35, 36, 37, 38, 39, 40, 41, 42, 43, 44, 45, 46, 47, 48, 49, 50, 51, 52, 53, 54, 55, 56, 57, 58, 29] rfl
      have hD : va_D (fun q : Nat => s.heap.size ≤ q) (((xU cI cB cE o9 r9 n9 z9 F9 G9 (Eo9 0 0) ++ mW mo ma cs J5 G5m) ++ [(ou, .inl (cL, 1, .inr (.inl fo9)))]) ++ eP cI N9 Eo9 Er9 En9 Ez9 EF9) := va_D.part (cx := ((xU cI cB cE o9 r9 n9 z9 F9 G9 (Eo9 0 0) ++ mW mo ma cs J5 G5m) ++ [(ou, .inl (cL, 1, .inr (.inl fo9)))])) hD [0, 1, 2, 3, 4, 5, 6, 7, 8, 9, 10, 11, 12, 13, 14, 15, 16, 17, 18, 19, 20, 21, 22, 23, 24, 25, 26, 27, 28, 30, 31, 32, 33, 34, 35, 36, 37, 38, 39, 40, 41, 42, 43, 44, 45, 46, 47, 48, 49, 50, 51, 52, 53, 54, 55, 56, 57, 58, 29] lq_5 rfl
      obtain ⟨hcode, hans, hR9, hI9⟩ := st_rule hI hk01.2 hR (by decide) (hrelF ()) hw
      refine W.eq (g2 := F0 m 427 ls [.int (iz rr5)]) rfl ?_
      have hbq := hI9.1.hB.1 0
      refine lv_istore (lv' := [(6, .int (iz rr5)), (5, .int (iz q9)), (4, .int (iz (4 * k))), (3, .ref ou), (2, .ref mo), (1, .ref (o 15)), (0, .ref b)]) hx hb dL_law_427 hl (by decide) rfl (fun ls hl => ?_)
      refine lv_goto (tgt := 689) hx hb dL_law_429 (by decide) ?_
      exact kk o9 r9 n9 z9 F9 G9 N9 Eo9 Er9 En9 Ez9 EF9 fo9 J5 G5m H _ _ _ ls (ho9 15 (by decide) (by decide)) hok9 hxG9 hPE9 hI9 hR9 hP hD hS hlc.1 hls.1 (lv_sub hl [2, 3, 4, 5, 6] rfl)
set_option maxHeartbeats 4000000 in
set_option maxRecDepth 100000 in
theorem law_run {p : Program} {l : Launch} {e : Env} {s : State} {m : MethodId} {below : List Frame} {meth : Method} {c : Code} {b : Nat} {dC : Nat → ClassId} {dI : Nat → Nat → Nat} {cI cB cE cL : ClassId} {cs : Nat → ClassId} {mo : Nat} {ma : Nat → Nat} {ou xr : Nat} {L : Nat} {xs : Nat → Int32} {k : Int} (hlf : l.stackTraces = false) (C0 : lw_At p s m meth c b L xs) (hL : L ≤ 256) (hk : 0 ≤ k ∧ 4 * k + 4 ≤ (L : Int)) (hK : va_K (dC, dI) kxCl (lT cI cB cE cL cs) s) (kk : LW p l e s m below meth c b dC dI cI cB cE cL cs mo ma ou xr k (k + 1) 689) : LW p l e s m below meth c b dC dI cI cB cE cL cs mo ma ou xr k k 432 := by
  obtain ⟨hx, hb, hr, hml, hown, hts0, hX, hbl, hlocks, hgv⟩ := id C0
  have hown : s.vm.findClass RL = some m.cls := hown
  have hA : ∀ q : Nat, s.heap.size ≤ q → (fun q : Nat => s.heap.size ≤ q) q := fun _ h => h
  have hbA : ¬ (fun q : Nat => s.heap.size ≤ q) b := Nat.not_le.mpr hbl
  have hG : kx_G s := ⟨s, _, hts0, hgv, State.WarmedH.refl s⟩
  have hZ : kx_Z (fun q : Nat => s.heap.size ≤ q) s s.heap := law_Z hts0 hgv
  have hts := kx_hts (a := #[Value.ref b]) hG
  intro o r n z F G N Eo Er En Ez EF fo I Fm H locs cells slots ls hxr hok hxG hPE hI hR hP hD hS hcl hsl hl
  subst hxr
  obtain ⟨hN1, hN2, hN3, hN4⟩ := id hxG
  have hz78 := hR.2.1
  have hk64 := hI.2.1.1
  have hk01 : 0 ≤ k ∧ k < 64 := by omega
  obtain ⟨a1, ea1, a1l, a1h⟩ := iz_of (xs (iz (4 * k + 1)).toNatClampNeg)
  obtain ⟨a2, ea2, a2l, a2h⟩ := iz_of (xs (iz (4 * k + 2)).toNatClampNeg)
  obtain ⟨a3, ea3, a3l, a3h⟩ := iz_of (xs (iz (4 * k + 3)).toNatClampNeg)
  refine lv_aload_n hx hb dL_law_432 rfl (lv_at hl 3 rfl) ?_
  have hPc : va_P (dC, dI) kxCl (xU cI cB cE o r n z F G (Eo 0 0) ++ eP cI N Eo Er En Ez EF) H := va_P.part (cx := xU cI cB cE o r n z F G (Eo 0 0)) hP [0, 1, 2, 3, 4, 5, 6, 7, 8, 9, 10, 11, 12, 13, 14, 15, 16, 17, 18, 19, 20, 21, 22, 23, 24, 25, 26, 27, 28] rfl
  have hDc : va_D (fun q : Nat => s.heap.size ≤ q) (xU cI cB cE o r n z F G (Eo 0 0) ++ eP cI N Eo Er En Ez EF) := va_D.part (cx := xU cI cB cE o r n z F G (Eo 0 0)) hD [0, 1, 2, 3, 4, 5, 6, 7, 8, 9, 10, 11, 12, 13, 14, 15, 16, 17, 18, 19, 20, 21, 22, 23, 24, 25, 26, 27, 28] lq_6 rfl
  have hFc := va_freeP (cx := xU cI cB cE o r n z F G (Eo 0 0)) hD hS hA [0, 1, 2, 3, 4, 5, 6, 7, 8, 9, 10, 11, 12, 13, 14, 15, 16, 17, 18, 19, 20, 21, 22, 23, 24, 25, 26, 27, 28] rfl
  have hKc := hK.sub (tys' := xT cI cB cE) [0, 1, 2] rfl
  refine xk_call (va_runV (As := []) (rest := []) ⟨hx, hb, hml, hown, hts⟩ (y_run l dC dI cI cB cE o r n z F G N Eo Er En Ez EF H.size hok hxG hPE) (cwV 0 hts (kx_gV kq_27_law_41 kq_27_law_42 kq_27_law_43 kq_18_xrows_4 kq_27_law_44 rfl) rfl rfl rfl (by decide +kernel) ⟨Nat.le_of_ble_eq_true rfl, Nat.le_of_ble_eq_true rfl⟩) ⟨kx_blind, va_recv hKc hPc (ci := 5) (q0 := 0) rfl rfl, kx_give (ws := []) (tys := []) hPc hDc hKc hG hZ hS hFc⟩ rfl rfl hl.1 rfl (lv_room (Nat.le_of_ble_eq_true rfl)) dL_law_433 ⟨show cells + 700 ≤ 600384 from (by omega), show slots + 350000 ≤ 7291369 from (by omega)⟩) hS (fun q _ h => hFc q h) hFc (fun u dn9 dm9 t H1 locs ht hvm hq hB hk1 hS => ?_)
  obtain ⟨q9, r9, n9, z9, F9, Er9, En9, Ez9, EF9⟩ := u
  obtain ⟨hP1, hK1, hD1⟩ := hB
  rw [ht] at hP1
  try dsimp only at hq
  obtain ⟨hP, hD⟩ := va_joinP (wr := mW mo ma cs I Fm ++ [(ou, .inl (cL, 1, .inr (.inl fo)))]) (rx := xU cI cB cE o r9 n9 z9 F9 G (Eo 0 0)) (pl1 := eP cI N Eo Er9 En9 Ez9 EF9) hP hD [0, 1, 2, 3, 4, 5, 6, 7, 8, 9, 10, 11, 12, 13, 14, 15, 16, 17, 18, 19, 20, 21, 22, 23, 24, 25, 26, 27, 28] [29, 30, 31, 32, 33, 34, 35, 36, 37, 38, 39, 40, 41, 42, 43, 44, 45, 46, 47, 48, 49, 50, 51, 52, 53, 54, 55, 56, 57, 58] rfl rfl lq_7 lq_8 hk1 hFc hP1 hD1
  generalize H1 = H at hP hS ⊢
  have hP : va_P (dC, dI) kxCl (((xU cI cB cE o r9 n9 z9 F9 G (Eo 0 0) ++ mW mo ma cs I Fm) ++ [(ou, .inl (cL, 1, .inr (.inl fo)))]) ++ eP cI N Eo Er9 En9 Ez9 EF9) H := va_P.part (cx := ((xU cI cB cE o r9 n9 z9 F9 G (Eo 0 0) ++ mW mo ma cs I Fm) ++ [(ou, .inl (cL, 1, .inr (.inl fo)))])) hP [30, 31, 32, 33, 34, 35, 36, 37, 38, 39, 40, 41, 42, 43, 44, 45, 46, 47, 48, 49, 50, 51, 52, 53, 54, 55, 56, 57, 58, 0, 1, 2, 3, 4, 5, 6, 7, 8, 9, 10, 11, 12, 13, 14, 15, 16, 17, 18, 19, 20, 21, 22, 23, 24, 25, 26, 27, 28, 29] rfl
  have hD : va_D (fun q : Nat => s.heap.size ≤ q) (((xU cI cB cE o r9 n9 z9 F9 G (Eo 0 0) ++ mW mo ma cs I Fm) ++ [(ou, .inl (cL, 1, .inr (.inl fo)))]) ++ eP cI N Eo Er9 En9 Ez9 EF9) := va_D.part (cx := ((xU cI cB cE o r9 n9 z9 F9 G (Eo 0 0) ++ mW mo ma cs I Fm) ++ [(ou, .inl (cL, 1, .inr (.inl fo)))])) hD [30, 31, 32, 33, 34, 35, 36, 37, 38, 39, 40, 41, 42, 43, 44, 45, 46, 47, 48, 49, 50, 51, 52, 53, 54, 55, 56, 57, 58, 0, 1, 2, 3, 4, 5, 6, 7, 8, 9, 10, 11, 12, 13, 14, 15, 16, 17, 18, 19, 20, 21, 22, 23, 24, 25, 26, 27, 28, 29] lq_9 rfl
  obtain ⟨hR9, hC9, hpo⟩ := hq
  have hxgl := xg_le n
  have hxpl := xp_le n
  have hz12 : z9 12 = z 12 := hR9.2.1.1 12 (by decide)
  have hok9 := hR9.1
  have hxG9 : xG N (z9 12) G Eo := ⟨by omega, by omega, by omega, fun e9 h9 => hN4 e9 (by omega)⟩
  have hPE9 := hR9.2.2.1
  have ho9 : ∀ k, k ≠ 10 → k ≠ 11 → o k = o k := fun _ _ _ => rfl
  have hcost : dn9 ≤ 92 ∧ dm9 ≤ 41760 := by omega
  have hlc := lcC hcl (Nat.le_trans hcost.1 (by decide)) hk01
  have hls := lcS hsl (Nat.le_trans hcost.2 (by decide)) hk01
  refine W.eq (g2 := F0 m 436 ls [.int (iz q9)]) rfl ?_
  refine lv_pop hx hb dL_law_436 rfl ?_
  refine lv_aload_n hx hb dL_law_437 rfl (lv_at hl 2 rfl) ?_
  have hPc := hP.sub (ws' := mW mo ma cs I Fm) [29, 30, 31, 32, 33, 34, 35, 36, 37, 38, 39, 40, 41, 42, 43, 44, 45, 46, 47, 48, 49, 50, 51, 52, 53, 54, 55, 56, 57] rfl
  have hDc := hD.sub (ws' := mW mo ma cs I Fm) [29, 30, 31, 32, 33, 34, 35, 36, 37, 38, 39, 40, 41, 42, 43, 44, 45, 46, 47, 48, 49, 50, 51, 52, 53, 54, 55, 56, 57] lq_1 rfl
  have hFc := va_free (wc := mW mo ma cs I Fm) hD hS hA [29, 30, 31, 32, 33, 34, 35, 36, 37, 38, 39, 40, 41, 42, 43, 44, 45, 46, 47, 48, 49, 50, 51, 52, 53, 54, 55, 56, 57] rfl
  have hKc := hK.sub (tys' := mT cs) [3, 4, 5, 6, 7, 8, 9, 10, 11, 12, 13, 14, 15, 16, 17, 18, 19, 20, 21, 22, 23, 24, 25, 26, 27, 28, 29, 30] rfl
  refine va_calli (va_runV (As := []) (rest := []) ⟨hx, hb, hml, hown, hts⟩ (k_run l dC dI mo ma cs I Fm  H.size hI.1) (cwV 0 hts (kx_gV kq_27_law_45 kq_27_law_46 kq_27_law_47 kq_04_msmall_6 kq_27_law_48 rfl) rfl rfl rfl (by decide +kernel) ⟨Nat.le_of_ble_eq_true rfl, Nat.le_of_ble_eq_true rfl⟩) ⟨kx_blind, va_recv hKc hPc (ci := 6) (q0 := 0) rfl rfl, kx_give (ws := []) (tys := []) hPc hDc hKc hG hZ hS hFc⟩ rfl rfl hl.1 rfl (lv_room (Nat.le_of_ble_eq_true rfl)) dL_law_438 ⟨show (cells + dn9) + 0 ≤ 600384 from (Nat.le_trans hlc.2 (by decide)), show (slots + dm9) + 0 ≤ 7291369 from (Nat.le_trans hls.2 (by decide))⟩) hS (fun q _ h => hFc q h) hFc (fun r u t H1 locs ht hvm hw hB hz1 hk1 hS => ?_)
  obtain ⟨rr1, J1, G1m⟩ := u
  obtain ⟨hP1, hK1, hD1⟩ := hB
  rw [ht] at hP1
  obtain ⟨e1, hw⟩ := hw
  subst e1
  try dsimp only at hw
  obtain ⟨hP, hD⟩ := va_joinQ (wr := xU cI cB cE o r9 n9 z9 F9 G (Eo 0 0) ++ [(ou, .inl (cL, 1, .inr (.inl fo)))]) (w1 := mW mo ma cs J1 G1m) hP hD [29, 30, 31, 32, 33, 34, 35, 36, 37, 38, 39, 40, 41, 42, 43, 44, 45, 46, 47, 48, 49, 50, 51, 52, 53, 54, 55, 56, 57] [0, 1, 2, 3, 4, 5, 6, 7, 8, 9, 10, 11, 12, 13, 14, 15, 16, 17, 18, 19, 20, 21, 22, 23, 24, 25, 26, 27, 28, 58] rfl rfl lq_0 lq_4 hk1 hFc hP1 hD1
  generalize H1 = H at hP hS ⊢
  have hP : va_P (dC, dI) kxCl (((xU cI cB cE o r9 n9 z9 F9 G (Eo 0 0) ++ mW mo ma cs J1 G1m) ++ [(ou, .inl (cL, 1, .inr (.inl fo)))]) ++ eP cI N Eo Er9 En9 Ez9 EF9) H := va_P.part (cx := ((xU cI cB cE o r9 n9 z9 F9 G (Eo 0 0) ++ mW mo ma cs J1 G1m) ++ [(ou, .inl (cL, 1, .inr (.inl fo)))])) hP [0, 1, 2, 3, 4, 5, 6, 7, 8, 9, 10, 11, 12, 13, 14, 15, 16, 17, 18, 19, 20, 21, 22, 23, 24, 25, 26, 27, 28, 30, 31, 32, 33, 34, 35, 36, 37, 38, 39, 40, 41, 42, 43, 44, 45, 46, 47, 48, 49, 50, 51, 52, 53, 54, 55, 56, 57, 58, 29] rfl
  have hD : va_D (fun q : Nat => s.heap.size ≤ q) (((xU cI cB cE o r9 n9 z9 F9 G (Eo 0 0) ++ mW mo ma cs J1 G1m) ++ [(ou, .inl (cL, 1, .inr (.inl fo)))]) ++ eP cI N Eo Er9 En9 Ez9 EF9) := va_D.part (cx := ((xU cI cB cE o r9 n9 z9 F9 G (Eo 0 0) ++ mW mo ma cs J1 G1m) ++ [(ou, .inl (cL, 1, .inr (.inl fo)))])) hD [0, 1, 2, 3, 4, 5, 6, 7, 8, 9, 10, 11, 12, 13, 14, 15, 16, 17, 18, 19, 20, 21, 22, 23, 24, 25, 26, 27, 28, 30, 31, 32, 33, 34, 35, 36, 37, 38, 39, 40, 41, 42, 43, 44, 45, 46, 47, 48, 49, 50, 51, 52, 53, 54, 55, 56, 57, 58, 29] lq_5 rfl
  obtain ⟨hR9, hI9⟩ := st_ask hI hR hR9.2.1 hR9.2.2.2 (by decide) (by decide) (by decide) hw
  refine W.eq (g2 := F0 m 441 ls [.int (iz rr1)]) rfl ?_
  refine lv_pop hx hb dL_law_441 rfl ?_
  refine lv_goto (tgt := 689) hx hb dL_law_442 (by decide) ?_
  exact kk o r9 n9 z9 F9 G N Eo Er9 En9 Ez9 EF9 fo J1 G1m H _ _ _ ls (ho9 15 (by decide) (by decide)) hok9 hxG9 hPE9 hI9 hR9 hP hD hS hlc.1 hls.1 (lv_sub hl [0, 1, 2, 3, 4] rfl)
set_option maxHeartbeats 4000000 in
set_option maxRecDepth 100000 in
theorem law_row {p : Program} {l : Launch} {e : Env} {s : State} {m : MethodId} {below : List Frame} {meth : Method} {c : Code} {b : Nat} {dC : Nat → ClassId} {dI : Nat → Nat → Nat} {cI cB cE cL : ClassId} {cs : Nat → ClassId} {mo : Nat} {ma : Nat → Nat} {ou xr : Nat} {L : Nat} {xs : Nat → Int32} {k : Int} (hlf : l.stackTraces = false) (C0 : lw_At p s m meth c b L xs) (hL : L ≤ 256) (hk : 0 ≤ k ∧ 4 * k + 4 ≤ (L : Int)) (hK : va_K (dC, dI) kxCl (lT cI cB cE cL cs) s) (kk : LW p l e s m below meth c b dC dI cI cB cE cL cs mo ma ou xr k (k + 1) 689) : LW p l e s m below meth c b dC dI cI cB cE cL cs mo ma ou xr k k 445 := by
  obtain ⟨hx, hb, hr, hml, hown, hts0, hX, hbl, hlocks, hgv⟩ := id C0
  have hown : s.vm.findClass RL = some m.cls := hown
  have hA : ∀ q : Nat, s.heap.size ≤ q → (fun q : Nat => s.heap.size ≤ q) q := fun _ h => h
  have hbA : ¬ (fun q : Nat => s.heap.size ≤ q) b := Nat.not_le.mpr hbl
  have hG : kx_G s := ⟨s, _, hts0, hgv, State.WarmedH.refl s⟩
  have hZ : kx_Z (fun q : Nat => s.heap.size ≤ q) s s.heap := law_Z hts0 hgv
  have hts := kx_hts (a := #[Value.ref b]) hG
  intro o r n z F G N Eo Er En Ez EF fo I Fm H locs cells slots ls hxr hok hxG hPE hI hR hP hD hS hcl hsl hl
  subst hxr
  obtain ⟨hN1, hN2, hN3, hN4⟩ := id hxG
  have hz78 := hR.2.1
  have hk64 := hI.2.1.1
  have hk01 : 0 ≤ k ∧ k < 64 := by omega
  obtain ⟨a1, ea1, a1l, a1h⟩ := iz_of (xs (iz (4 * k + 1)).toNatClampNeg)
  obtain ⟨a2, ea2, a2l, a2h⟩ := iz_of (xs (iz (4 * k + 2)).toNatClampNeg)
  obtain ⟨a3, ea3, a3l, a3h⟩ := iz_of (xs (iz (4 * k + 3)).toNatClampNeg)
  refine lv_aload_n hx hb dL_law_445 rfl (lv_at hl 3 rfl) ?_
  refine lv_aload_n hx hb dL_law_446 rfl (lv_at hl 4 rfl) ?_
  refine lv_iload hx hb dL_law_447 (lv_at hl 0 rfl) ?_
  refine lv_iconst (v := iz 1) hx hb dL_law_449 (by decide) ?_
  refine ki_iadd hx hb dL_law_450 ?_
  refine va_sld hx hb hX hbl hbA hS (iz_in (by omega) (by omega) (by omega)) dL_law_451 ?_
  refine ki_is ea1 ?_
  refine lv_aload_n hx hb dL_law_452 rfl (lv_at hl 4 rfl) ?_
  refine lv_iload hx hb dL_law_453 (lv_at hl 0 rfl) ?_
  refine lv_iconst (v := iz 2) hx hb dL_law_455 (by decide) ?_
  refine ki_iadd hx hb dL_law_456 ?_
  refine va_sld hx hb hX hbl hbA hS (iz_in (by omega) (by omega) (by omega)) dL_law_457 ?_
  refine ki_is ea2 ?_
  refine lv_aload_n hx hb dL_law_458 rfl (lv_at hl 1 rfl) ?_
  have hPc : va_P (dC, dI) kxCl ((xU cI cB cE o r n z F G (Eo 0 0) ++ [(ou, .inl (cL, 1, .inr (.inl fo)))]) ++ eP cI N Eo Er En Ez EF) H := va_P.part (cx := xU cI cB cE o r n z F G (Eo 0 0) ++ [(ou, .inl (cL, 1, .inr (.inl fo)))]) hP [0, 1, 2, 3, 4, 5, 6, 7, 8, 9, 10, 11, 12, 13, 14, 15, 16, 17, 18, 19, 20, 21, 22, 23, 24, 25, 26, 27, 28, 58] rfl
  have hDc : va_D (fun q : Nat => s.heap.size ≤ q) ((xU cI cB cE o r n z F G (Eo 0 0) ++ [(ou, .inl (cL, 1, .inr (.inl fo)))]) ++ eP cI N Eo Er En Ez EF) := va_D.part (cx := xU cI cB cE o r n z F G (Eo 0 0) ++ [(ou, .inl (cL, 1, .inr (.inl fo)))]) hD [0, 1, 2, 3, 4, 5, 6, 7, 8, 9, 10, 11, 12, 13, 14, 15, 16, 17, 18, 19, 20, 21, 22, 23, 24, 25, 26, 27, 28, 58] lq_0 rfl
  have hFc := va_freeP (cx := xU cI cB cE o r n z F G (Eo 0 0) ++ [(ou, .inl (cL, 1, .inr (.inl fo)))]) hD hS hA [0, 1, 2, 3, 4, 5, 6, 7, 8, 9, 10, 11, 12, 13, 14, 15, 16, 17, 18, 19, 20, 21, 22, 23, 24, 25, 26, 27, 28, 58] rfl
  have hKc := hK.sub (tys' := [(cI, .int), (cB, .byte), (cE, .object RX0), (cL, .long)]) [0, 1, 2, 31] rfl
  refine xk_call (vx_runSW (As := [.ref (o 15), .int (iz a1), .int (iz a2), .ref ou]) (rest := []) ⟨hx, hb, hml, hown, hts⟩ (h_row l hlf dC dI cI cB cE cL o r n z F G N Eo Er En Ez EF ou fo a1 a2 H.size hok hxG hPE (by omega) (by omega) (by omega) (by omega)) (vx_cwSW 4 hts (kx_gS kq_27_law_49 kq_27_law_50 kq_27_law_2 kq_25_xhelp_36 rfl) rfl rfl rfl (by decide +kernel) ⟨Nat.le_of_ble_eq_true rfl, Nat.le_of_ble_eq_true rfl⟩) ⟨kx_blind, kx_give (ws := []) (tys := []) hPc hDc hKc hG hZ hS hFc⟩ rfl rfl hl.1 rfl (lv_room (Nat.le_of_ble_eq_true rfl)) dL_law_459 ⟨show cells + 1200 ≤ 600384 from (by omega), show slots + 600000 ≤ 7291369 from (by omega)⟩) hS (fun q _ h => hFc q h) hFc (fun u dn9 dm9 t H1 locs ht hvm hq hB hk1 hS => ?_)
  obtain ⟨q9, fo9, o9, r9, n9, z9, F9, G9, N9, Eo9, Er9, En9, Ez9, EF9⟩ := u
  obtain ⟨hP1, hK1, hD1⟩ := hB
  rw [ht] at hP1
  try dsimp only at hq
  obtain ⟨hP, hD⟩ := va_joinP (wr := mW mo ma cs I Fm) (rx := xU cI cB cE o9 r9 n9 z9 F9 G9 (Eo9 0 0) ++ [(ou, .inl (cL, 1, .inr (.inl fo9)))]) (pl1 := eP cI N9 Eo9 Er9 En9 Ez9 EF9) hP hD [0, 1, 2, 3, 4, 5, 6, 7, 8, 9, 10, 11, 12, 13, 14, 15, 16, 17, 18, 19, 20, 21, 22, 23, 24, 25, 26, 27, 28, 58] [29, 30, 31, 32, 33, 34, 35, 36, 37, 38, 39, 40, 41, 42, 43, 44, 45, 46, 47, 48, 49, 50, 51, 52, 53, 54, 55, 56, 57] rfl rfl lq_1 lq_2 hk1 hFc hP1 hD1
  generalize H1 = H at hP hS ⊢
  have hP : va_P (dC, dI) kxCl (((xU cI cB cE o9 r9 n9 z9 F9 G9 (Eo9 0 0) ++ mW mo ma cs I Fm) ++ [(ou, .inl (cL, 1, .inr (.inl fo9)))]) ++ eP cI N9 Eo9 Er9 En9 Ez9 EF9) H := va_P.part (cx := ((xU cI cB cE o9 r9 n9 z9 F9 G9 (Eo9 0 0) ++ mW mo ma cs I Fm) ++ [(ou, .inl (cL, 1, .inr (.inl fo9)))])) hP [29, 30, 31, 32, 33, 34, 35, 36, 37, 38, 39, 40, 41, 42, 43, 44, 45, 46, 47, 48, 49, 50, 51, 52, 53, 54, 55, 56, 57, 0, 1, 2, 3, 4, 5, 6, 7, 8, 9, 10, 11, 12, 13, 14, 15, 16, 17, 18, 19, 20, 21, 22, 23, 24, 25, 26, 27, 28, 58] rfl
  have hD : va_D (fun q : Nat => s.heap.size ≤ q) (((xU cI cB cE o9 r9 n9 z9 F9 G9 (Eo9 0 0) ++ mW mo ma cs I Fm) ++ [(ou, .inl (cL, 1, .inr (.inl fo9)))]) ++ eP cI N9 Eo9 Er9 En9 Ez9 EF9) := va_D.part (cx := ((xU cI cB cE o9 r9 n9 z9 F9 G9 (Eo9 0 0) ++ mW mo ma cs I Fm) ++ [(ou, .inl (cL, 1, .inr (.inl fo9)))])) hD [29, 30, 31, 32, 33, 34, 35, 36, 37, 38, 39, 40, 41, 42, 43, 44, 45, 46, 47, 48, 49, 50, 51, 52, 53, 54, 55, 56, 57, 0, 1, 2, 3, 4, 5, 6, 7, 8, 9, 10, 11, 12, 13, 14, 15, 16, 17, 18, 19, 20, 21, 22, 23, 24, 25, 26, 27, 28, 58] lq_3 rfl
  obtain ⟨hok9, hxG9, hPE9, hcost, ho9, hrel⟩ := hq
  have hrelF := fun (_ : Unit) => hrel
  clear hrel
  have hlc := lcC hcl (Nat.le_trans hcost.1 (by decide)) hk01
  have hls := lcS hsl (Nat.le_trans hcost.2 (by decide)) hk01
  refine W.eq (g2 := F0 m 462 ls [.int (iz q9)]) rfl ?_
  refine lv_istore (lv' := [(5, .int (iz q9)), (4, .int (iz (4 * k))), (3, .ref ou), (2, .ref mo), (1, .ref (o 15)), (0, .ref b)]) hx hb dL_law_462 hl (by decide) rfl (fun ls hl => ?_)
  refine lv_aload_n hx hb dL_law_464 rfl (lv_at hl 3 rfl) ?_
  refine lv_aload_n hx hb dL_law_465 rfl (lv_at hl 5 rfl) ?_
  refine lv_iload hx hb dL_law_466 (lv_at hl 1 rfl) ?_
  refine lv_iconst (v := iz 1) hx hb dL_law_468 (by decide) ?_
  refine ki_iadd hx hb dL_law_469 ?_
  refine va_sld hx hb hX hbl hbA hS (iz_in (by omega) (by omega) (by omega)) dL_law_470 ?_
  refine ki_is ea1 ?_
  refine lv_aload_n hx hb dL_law_471 rfl (lv_at hl 5 rfl) ?_
  refine lv_iload hx hb dL_law_472 (lv_at hl 1 rfl) ?_
  refine lv_iconst (v := iz 2) hx hb dL_law_474 (by decide) ?_
  refine ki_iadd hx hb dL_law_475 ?_
  refine va_sld hx hb hX hbl hbA hS (iz_in (by omega) (by omega) (by omega)) dL_law_476 ?_
  refine ki_is ea2 ?_
  have hPc := hP.sub (ws' := mW mo ma cs I Fm) [29, 30, 31, 32, 33, 34, 35, 36, 37, 38, 39, 40, 41, 42, 43, 44, 45, 46, 47, 48, 49, 50, 51, 52, 53, 54, 55, 56, 57] rfl
  have hDc := hD.sub (ws' := mW mo ma cs I Fm) [29, 30, 31, 32, 33, 34, 35, 36, 37, 38, 39, 40, 41, 42, 43, 44, 45, 46, 47, 48, 49, 50, 51, 52, 53, 54, 55, 56, 57] lq_1 rfl
  have hFc := va_free (wc := mW mo ma cs I Fm) hD hS hA [29, 30, 31, 32, 33, 34, 35, 36, 37, 38, 39, 40, 41, 42, 43, 44, 45, 46, 47, 48, 49, 50, 51, 52, 53, 54, 55, 56, 57] rfl
  have hKc := hK.sub (tys' := mT cs) [3, 4, 5, 6, 7, 8, 9, 10, 11, 12, 13, 14, 15, 16, 17, 18, 19, 20, 21, 22, 23, 24, 25, 26, 27, 28, 29, 30] rfl
  refine va_calli (va_runV (As := [.int (iz a1), .int (iz a2)]) (rest := []) ⟨hx, hb, hml, hown, hts⟩ (k_row l dC dI mo ma cs I Fm a1 a2 H.size hI.1 (by omega) (by omega) (by omega) (by omega)) (cwV 2 hts (kx_gV kq_27_law_51 kq_27_law_52 kq_27_law_53 kq_04_msmall_6 kq_27_law_54 rfl) rfl rfl rfl (by decide +kernel) ⟨Nat.le_of_ble_eq_true rfl, Nat.le_of_ble_eq_true rfl⟩) ⟨kx_blind, va_recv hKc hPc (ci := 6) (q0 := 0) rfl rfl, kx_give (ws := []) (tys := []) hPc hDc hKc hG hZ hS hFc⟩ rfl rfl hl.1 rfl (lv_room (Nat.le_of_ble_eq_true rfl)) dL_law_477 ⟨show (cells + dn9) + 0 ≤ 600384 from (Nat.le_trans hlc.2 (by decide)), show (slots + dm9) + 0 ≤ 7291369 from (Nat.le_trans hls.2 (by decide))⟩) hS (fun q _ h => hFc q h) hFc (fun r u t H1 locs ht hvm hw hB hz1 hk1 hS => ?_)
  obtain ⟨rr1, J1, G1m⟩ := u
  obtain ⟨hP1, hK1, hD1⟩ := hB
  rw [ht] at hP1
  obtain ⟨e1, hw⟩ := hw
  subst e1
  try dsimp only at hw
  obtain ⟨hP, hD⟩ := va_joinQ (wr := xU cI cB cE o9 r9 n9 z9 F9 G9 (Eo9 0 0) ++ [(ou, .inl (cL, 1, .inr (.inl fo9)))]) (w1 := mW mo ma cs J1 G1m) hP hD [29, 30, 31, 32, 33, 34, 35, 36, 37, 38, 39, 40, 41, 42, 43, 44, 45, 46, 47, 48, 49, 50, 51, 52, 53, 54, 55, 56, 57] [0, 1, 2, 3, 4, 5, 6, 7, 8, 9, 10, 11, 12, 13, 14, 15, 16, 17, 18, 19, 20, 21, 22, 23, 24, 25, 26, 27, 28, 58] rfl rfl lq_0 lq_4 hk1 hFc hP1 hD1
  generalize H1 = H at hP hS ⊢
  have hP : va_P (dC, dI) kxCl (((xU cI cB cE o9 r9 n9 z9 F9 G9 (Eo9 0 0) ++ mW mo ma cs J1 G1m) ++ [(ou, .inl (cL, 1, .inr (.inl fo9)))]) ++ eP cI N9 Eo9 Er9 En9 Ez9 EF9) H := va_P.part (cx := ((xU cI cB cE o9 r9 n9 z9 F9 G9 (Eo9 0 0) ++ mW mo ma cs J1 G1m) ++ [(ou, .inl (cL, 1, .inr (.inl fo9)))])) hP [0, 1, 2, 3, 4, 5, 6, 7, 8, 9, 10, 11, 12, 13, 14, 15, 16, 17, 18, 19, 20, 21, 22, 23, 24, 25, 26, 27, 28, 30, 31, 32, 33, 34, 35, 36, 37, 38, 39, 40, 41, 42, 43, 44, 45, 46, 47, 48, 49, 50, 51, 52, 53, 54, 55, 56, 57, 58, 29] rfl
  have hD : va_D (fun q : Nat => s.heap.size ≤ q) (((xU cI cB cE o9 r9 n9 z9 F9 G9 (Eo9 0 0) ++ mW mo ma cs J1 G1m) ++ [(ou, .inl (cL, 1, .inr (.inl fo9)))]) ++ eP cI N9 Eo9 Er9 En9 Ez9 EF9) := va_D.part (cx := ((xU cI cB cE o9 r9 n9 z9 F9 G9 (Eo9 0 0) ++ mW mo ma cs J1 G1m) ++ [(ou, .inl (cL, 1, .inr (.inl fo9)))])) hD [0, 1, 2, 3, 4, 5, 6, 7, 8, 9, 10, 11, 12, 13, 14, 15, 16, 17, 18, 19, 20, 21, 22, 23, 24, 25, 26, 27, 28, 30, 31, 32, 33, 34, 35, 36, 37, 38, 39, 40, 41, 42, 43, 44, 45, 46, 47, 48, 49, 50, 51, 52, 53, 54, 55, 56, 57, 58, 29] lq_5 rfl
  have hfr9 : (∃ S T S2 T2 : List Nat, xFr S T z F z9 F9 ∧ eFr S2 T2 En Ez EF En9 Ez9 EF9 ∧ (3 ∉ S ∧ 12 ∉ S ∧ 13 ∉ S ∧ 14 ∉ S) ∧ (0 ∉ S2 ∧ 4 ∉ S2 ∧ 7 ∉ S2 ∧ 9 ∉ S2) ∧ 4 ∉ T2) := by rcases (hrelF ()).2 with ⟨-, h1, h2, -⟩ | ⟨⟨h1, h2⟩, -⟩; exact ⟨_, _, _, _, h1, h2, by decide, by decide, by decide⟩; exact ⟨_, _, _, _, h1, h2, by decide, by decide, by decide⟩
  obtain ⟨S9, T9, S29, T29, hf1, hf2, hf3, hf4, hf5⟩ := hfr9
  obtain ⟨hR9, hI9⟩ := st_ask hI hR hf1 hf2 hf3 hf4 hf5 hw
  refine W.eq (g2 := F0 m 480 ls [.int (iz rr1)]) rfl ?_
  refine lv_istore (lv' := [(6, .int (iz rr1)), (5, .int (iz q9)), (4, .int (iz (4 * k))), (3, .ref ou), (2, .ref mo), (1, .ref (o 15)), (0, .ref b)]) hx hb dL_law_480 hl (by decide) rfl (fun ls hl => ?_)
  refine lv_goto (tgt := 689) hx hb dL_law_482 (by decide) ?_
  exact kk o9 r9 n9 z9 F9 G9 N9 Eo9 Er9 En9 Ez9 EF9 fo9 J1 G1m H _ _ _ ls (ho9 15 (by decide) (by decide)) hok9 hxG9 hPE9 hI9 hR9 hP hD hS hlc.1 hls.1 (lv_sub hl [2, 3, 4, 5, 6] rfl)
set_option maxHeartbeats 4000000 in
set_option maxRecDepth 100000 in
theorem law_locator {p : Program} {l : Launch} {e : Env} {s : State} {m : MethodId} {below : List Frame} {meth : Method} {c : Code} {b : Nat} {dC : Nat → ClassId} {dI : Nat → Nat → Nat} {cI cB cE cL : ClassId} {cs : Nat → ClassId} {mo : Nat} {ma : Nat → Nat} {ou xr : Nat} {L : Nat} {xs : Nat → Int32} {k : Int} (hlf : l.stackTraces = false) (C0 : lw_At p s m meth c b L xs) (hL : L ≤ 256) (hk : 0 ≤ k ∧ 4 * k + 4 ≤ (L : Int)) (hK : va_K (dC, dI) kxCl (lT cI cB cE cL cs) s) (kk : LW p l e s m below meth c b dC dI cI cB cE cL cs mo ma ou xr k (k + 1) 689) : LW p l e s m below meth c b dC dI cI cB cE cL cs mo ma ou xr k k 485 := by
  obtain ⟨hx, hb, hr, hml, hown, hts0, hX, hbl, hlocks, hgv⟩ := id C0
  have hown : s.vm.findClass RL = some m.cls := hown
  have hA : ∀ q : Nat, s.heap.size ≤ q → (fun q : Nat => s.heap.size ≤ q) q := fun _ h => h
  have hbA : ¬ (fun q : Nat => s.heap.size ≤ q) b := Nat.not_le.mpr hbl
  have hG : kx_G s := ⟨s, _, hts0, hgv, State.WarmedH.refl s⟩
  have hZ : kx_Z (fun q : Nat => s.heap.size ≤ q) s s.heap := law_Z hts0 hgv
  have hts := kx_hts (a := #[Value.ref b]) hG
  intro o r n z F G N Eo Er En Ez EF fo I Fm H locs cells slots ls hxr hok hxG hPE hI hR hP hD hS hcl hsl hl
  subst hxr
  obtain ⟨hN1, hN2, hN3, hN4⟩ := id hxG
  have hz78 := hR.2.1
  have hk64 := hI.2.1.1
  have hk01 : 0 ≤ k ∧ k < 64 := by omega
  obtain ⟨a1, ea1, a1l, a1h⟩ := iz_of (xs (iz (4 * k + 1)).toNatClampNeg)
  obtain ⟨a2, ea2, a2l, a2h⟩ := iz_of (xs (iz (4 * k + 2)).toNatClampNeg)
  obtain ⟨a3, ea3, a3l, a3h⟩ := iz_of (xs (iz (4 * k + 3)).toNatClampNeg)
  refine lv_aload_n hx hb dL_law_485 rfl (lv_at hl 3 rfl) ?_
  refine lv_aload_n hx hb dL_law_486 rfl (lv_at hl 4 rfl) ?_
  refine lv_iload hx hb dL_law_487 (lv_at hl 0 rfl) ?_
  refine lv_iconst (v := iz 1) hx hb dL_law_489 (by decide) ?_
  refine ki_iadd hx hb dL_law_490 ?_
  refine va_sld hx hb hX hbl hbA hS (iz_in (by omega) (by omega) (by omega)) dL_law_491 ?_
  refine ki_is ea1 ?_
  refine lv_aload_n hx hb dL_law_492 rfl (lv_at hl 4 rfl) ?_
  refine lv_iload hx hb dL_law_493 (lv_at hl 0 rfl) ?_
  refine lv_iconst (v := iz 2) hx hb dL_law_495 (by decide) ?_
  refine ki_iadd hx hb dL_law_496 ?_
  refine va_sld hx hb hX hbl hbA hS (iz_in (by omega) (by omega) (by omega)) dL_law_497 ?_
  refine ki_is ea2 ?_
  refine lv_aload_n hx hb dL_law_498 rfl (lv_at hl 4 rfl) ?_
  refine lv_iload hx hb dL_law_499 (lv_at hl 0 rfl) ?_
  refine lv_iconst (v := iz 3) hx hb dL_law_501 (by decide) ?_
  refine ki_iadd hx hb dL_law_502 ?_
  refine va_sld hx hb hX hbl hbA hS (iz_in (by omega) (by omega) (by omega)) dL_law_503 ?_
  refine ki_is ea3 ?_
  refine lv_aload_n hx hb dL_law_504 rfl (lv_at hl 1 rfl) ?_
  have hPc : va_P (dC, dI) kxCl ((xU cI cB cE o r n z F G (Eo 0 0) ++ [(ou, .inl (cL, 1, .inr (.inl fo)))]) ++ eP cI N Eo Er En Ez EF) H := va_P.part (cx := xU cI cB cE o r n z F G (Eo 0 0) ++ [(ou, .inl (cL, 1, .inr (.inl fo)))]) hP [0, 1, 2, 3, 4, 5, 6, 7, 8, 9, 10, 11, 12, 13, 14, 15, 16, 17, 18, 19, 20, 21, 22, 23, 24, 25, 26, 27, 28, 58] rfl
  have hDc : va_D (fun q : Nat => s.heap.size ≤ q) ((xU cI cB cE o r n z F G (Eo 0 0) ++ [(ou, .inl (cL, 1, .inr (.inl fo)))]) ++ eP cI N Eo Er En Ez EF) := va_D.part (cx := xU cI cB cE o r n z F G (Eo 0 0) ++ [(ou, .inl (cL, 1, .inr (.inl fo)))]) hD [0, 1, 2, 3, 4, 5, 6, 7, 8, 9, 10, 11, 12, 13, 14, 15, 16, 17, 18, 19, 20, 21, 22, 23, 24, 25, 26, 27, 28, 58] lq_0 rfl
  have hFc := va_freeP (cx := xU cI cB cE o r n z F G (Eo 0 0) ++ [(ou, .inl (cL, 1, .inr (.inl fo)))]) hD hS hA [0, 1, 2, 3, 4, 5, 6, 7, 8, 9, 10, 11, 12, 13, 14, 15, 16, 17, 18, 19, 20, 21, 22, 23, 24, 25, 26, 27, 28, 58] rfl
  have hKc := hK.sub (tys' := [(cI, .int), (cB, .byte), (cE, .object RX0), (cL, .long)]) [0, 1, 2, 31] rfl
  refine xk_call (vx_runSW (As := [.ref (o 15), .int (iz a1), .int (iz a2), .int (iz a3), .ref ou]) (rest := []) ⟨hx, hb, hml, hown, hts⟩ (h_locator l hlf dC dI cI cB cE cL o r n z F G N Eo Er En Ez EF ou fo a1 a2 a3 H.size hok hxG hPE (by omega) (by omega) (by omega) (by omega) (by omega) (by omega)) (vx_cwSW 5 hts (kx_gS kq_27_law_55 kq_27_law_56 kq_27_law_2 kq_25_xhelp_43 rfl) rfl rfl rfl (by decide +kernel) ⟨Nat.le_of_ble_eq_true rfl, Nat.le_of_ble_eq_true rfl⟩) ⟨kx_blind, kx_give (ws := []) (tys := []) hPc hDc hKc hG hZ hS hFc⟩ rfl rfl hl.1 rfl (lv_room (Nat.le_of_ble_eq_true rfl)) dL_law_505 ⟨show cells + 1200 ≤ 600384 from (by omega), show slots + 600000 ≤ 7291369 from (by omega)⟩) hS (fun q _ h => hFc q h) hFc (fun u dn9 dm9 t H1 locs ht hvm hq hB hk1 hS => ?_)
  obtain ⟨q9, fo9, o9, r9, n9, z9, F9, G9, N9, Eo9, Er9, En9, Ez9, EF9⟩ := u
  obtain ⟨hP1, hK1, hD1⟩ := hB
  rw [ht] at hP1
  try dsimp only at hq
  obtain ⟨hP, hD⟩ := va_joinP (wr := mW mo ma cs I Fm) (rx := xU cI cB cE o9 r9 n9 z9 F9 G9 (Eo9 0 0) ++ [(ou, .inl (cL, 1, .inr (.inl fo9)))]) (pl1 := eP cI N9 Eo9 Er9 En9 Ez9 EF9) hP hD [0, 1, 2, 3, 4, 5, 6, 7, 8, 9, 10, 11, 12, 13, 14, 15, 16, 17, 18, 19, 20, 21, 22, 23, 24, 25, 26, 27, 28, 58] [29, 30, 31, 32, 33, 34, 35, 36, 37, 38, 39, 40, 41, 42, 43, 44, 45, 46, 47, 48, 49, 50, 51, 52, 53, 54, 55, 56, 57] rfl rfl lq_1 lq_2 hk1 hFc hP1 hD1
  generalize H1 = H at hP hS ⊢
  have hP : va_P (dC, dI) kxCl (((xU cI cB cE o9 r9 n9 z9 F9 G9 (Eo9 0 0) ++ mW mo ma cs I Fm) ++ [(ou, .inl (cL, 1, .inr (.inl fo9)))]) ++ eP cI N9 Eo9 Er9 En9 Ez9 EF9) H := va_P.part (cx := ((xU cI cB cE o9 r9 n9 z9 F9 G9 (Eo9 0 0) ++ mW mo ma cs I Fm) ++ [(ou, .inl (cL, 1, .inr (.inl fo9)))])) hP [29, 30, 31, 32, 33, 34, 35, 36, 37, 38, 39, 40, 41, 42, 43, 44, 45, 46, 47, 48, 49, 50, 51, 52, 53, 54, 55, 56, 57, 0, 1, 2, 3, 4, 5, 6, 7, 8, 9, 10, 11, 12, 13, 14, 15, 16, 17, 18, 19, 20, 21, 22, 23, 24, 25, 26, 27, 28, 58] rfl
  have hD : va_D (fun q : Nat => s.heap.size ≤ q) (((xU cI cB cE o9 r9 n9 z9 F9 G9 (Eo9 0 0) ++ mW mo ma cs I Fm) ++ [(ou, .inl (cL, 1, .inr (.inl fo9)))]) ++ eP cI N9 Eo9 Er9 En9 Ez9 EF9) := va_D.part (cx := ((xU cI cB cE o9 r9 n9 z9 F9 G9 (Eo9 0 0) ++ mW mo ma cs I Fm) ++ [(ou, .inl (cL, 1, .inr (.inl fo9)))])) hD [29, 30, 31, 32, 33, 34, 35, 36, 37, 38, 39, 40, 41, 42, 43, 44, 45, 46, 47, 48, 49, 50, 51, 52, 53, 54, 55, 56, 57, 0, 1, 2, 3, 4, 5, 6, 7, 8, 9, 10, 11, 12, 13, 14, 15, 16, 17, 18, 19, 20, 21, 22, 23, 24, 25, 26, 27, 28, 58] lq_3 rfl
  obtain ⟨hok9, hxG9, hPE9, hcost, ho9, hrel⟩ := hq
  have hrelF := fun (_ : Unit) => hrel
  clear hrel
  have hlc := lcC hcl (Nat.le_trans hcost.1 (by decide)) hk01
  have hls := lcS hsl (Nat.le_trans hcost.2 (by decide)) hk01
  refine W.eq (g2 := F0 m 508 ls [.int (iz q9)]) rfl ?_
  refine lv_istore (lv' := [(5, .int (iz q9)), (4, .int (iz (4 * k))), (3, .ref ou), (2, .ref mo), (1, .ref (o 15)), (0, .ref b)]) hx hb dL_law_508 hl (by decide) rfl (fun ls hl => ?_)
  refine lv_aload_n hx hb dL_law_510 rfl (lv_at hl 3 rfl) ?_
  refine lv_aload_n hx hb dL_law_511 rfl (lv_at hl 5 rfl) ?_
  refine lv_iload hx hb dL_law_512 (lv_at hl 1 rfl) ?_
  refine lv_iconst (v := iz 1) hx hb dL_law_514 (by decide) ?_
  refine ki_iadd hx hb dL_law_515 ?_
  refine va_sld hx hb hX hbl hbA hS (iz_in (by omega) (by omega) (by omega)) dL_law_516 ?_
  refine ki_is ea1 ?_
  refine lv_aload_n hx hb dL_law_517 rfl (lv_at hl 5 rfl) ?_
  refine lv_iload hx hb dL_law_518 (lv_at hl 1 rfl) ?_
  refine lv_iconst (v := iz 2) hx hb dL_law_520 (by decide) ?_
  refine ki_iadd hx hb dL_law_521 ?_
  refine va_sld hx hb hX hbl hbA hS (iz_in (by omega) (by omega) (by omega)) dL_law_522 ?_
  refine ki_is ea2 ?_
  refine lv_aload_n hx hb dL_law_523 rfl (lv_at hl 5 rfl) ?_
  refine lv_iload hx hb dL_law_524 (lv_at hl 1 rfl) ?_
  refine lv_iconst (v := iz 3) hx hb dL_law_526 (by decide) ?_
  refine ki_iadd hx hb dL_law_527 ?_
  refine va_sld hx hb hX hbl hbA hS (iz_in (by omega) (by omega) (by omega)) dL_law_528 ?_
  refine ki_is ea3 ?_
  have hPc := hP.sub (ws' := mW mo ma cs I Fm) [29, 30, 31, 32, 33, 34, 35, 36, 37, 38, 39, 40, 41, 42, 43, 44, 45, 46, 47, 48, 49, 50, 51, 52, 53, 54, 55, 56, 57] rfl
  have hDc := hD.sub (ws' := mW mo ma cs I Fm) [29, 30, 31, 32, 33, 34, 35, 36, 37, 38, 39, 40, 41, 42, 43, 44, 45, 46, 47, 48, 49, 50, 51, 52, 53, 54, 55, 56, 57] lq_1 rfl
  have hFc := va_free (wc := mW mo ma cs I Fm) hD hS hA [29, 30, 31, 32, 33, 34, 35, 36, 37, 38, 39, 40, 41, 42, 43, 44, 45, 46, 47, 48, 49, 50, 51, 52, 53, 54, 55, 56, 57] rfl
  have hKc := hK.sub (tys' := mT cs) [3, 4, 5, 6, 7, 8, 9, 10, 11, 12, 13, 14, 15, 16, 17, 18, 19, 20, 21, 22, 23, 24, 25, 26, 27, 28, 29, 30] rfl
  refine va_calli (va_runV (As := [.int (iz a1), .int (iz a2), .int (iz a3)]) (rest := []) ⟨hx, hb, hml, hown, hts⟩ (k_locator l dC dI mo ma cs I Fm a1 a2 a3 H.size hI.1 (by omega) (by omega) (by omega) (by omega) (by omega) (by omega)) (cwV 3 hts (kx_gV kq_27_law_57 kq_27_law_58 kq_27_law_59 kq_04_msmall_6 kq_27_law_60 rfl) rfl rfl rfl (by decide +kernel) ⟨Nat.le_of_ble_eq_true rfl, Nat.le_of_ble_eq_true rfl⟩) ⟨kx_blind, va_recv hKc hPc (ci := 6) (q0 := 0) rfl rfl, kx_give (ws := []) (tys := []) hPc hDc hKc hG hZ hS hFc⟩ rfl rfl hl.1 rfl (lv_room (Nat.le_of_ble_eq_true rfl)) dL_law_529 ⟨show (cells + dn9) + 0 ≤ 600384 from (Nat.le_trans hlc.2 (by decide)), show (slots + dm9) + 0 ≤ 7291369 from (Nat.le_trans hls.2 (by decide))⟩) hS (fun q _ h => hFc q h) hFc (fun r u t H1 locs ht hvm hw hB hz1 hk1 hS => ?_)
  obtain ⟨rr1, J1, G1m⟩ := u
  obtain ⟨hP1, hK1, hD1⟩ := hB
  rw [ht] at hP1
  obtain ⟨e1, hw⟩ := hw
  subst e1
  try dsimp only at hw
  obtain ⟨hP, hD⟩ := va_joinQ (wr := xU cI cB cE o9 r9 n9 z9 F9 G9 (Eo9 0 0) ++ [(ou, .inl (cL, 1, .inr (.inl fo9)))]) (w1 := mW mo ma cs J1 G1m) hP hD [29, 30, 31, 32, 33, 34, 35, 36, 37, 38, 39, 40, 41, 42, 43, 44, 45, 46, 47, 48, 49, 50, 51, 52, 53, 54, 55, 56, 57] [0, 1, 2, 3, 4, 5, 6, 7, 8, 9, 10, 11, 12, 13, 14, 15, 16, 17, 18, 19, 20, 21, 22, 23, 24, 25, 26, 27, 28, 58] rfl rfl lq_0 lq_4 hk1 hFc hP1 hD1
  generalize H1 = H at hP hS ⊢
  have hP : va_P (dC, dI) kxCl (((xU cI cB cE o9 r9 n9 z9 F9 G9 (Eo9 0 0) ++ mW mo ma cs J1 G1m) ++ [(ou, .inl (cL, 1, .inr (.inl fo9)))]) ++ eP cI N9 Eo9 Er9 En9 Ez9 EF9) H := va_P.part (cx := ((xU cI cB cE o9 r9 n9 z9 F9 G9 (Eo9 0 0) ++ mW mo ma cs J1 G1m) ++ [(ou, .inl (cL, 1, .inr (.inl fo9)))])) hP [0, 1, 2, 3, 4, 5, 6, 7, 8, 9, 10, 11, 12, 13, 14, 15, 16, 17, 18, 19, 20, 21, 22, 23, 24, 25, 26, 27, 28, 30, 31, 32, 33, 34, 35, 36, 37, 38, 39, 40, 41, 42, 43, 44, 45, 46, 47, 48, 49, 50, 51, 52, 53, 54, 55, 56, 57, 58, 29] rfl
  have hD : va_D (fun q : Nat => s.heap.size ≤ q) (((xU cI cB cE o9 r9 n9 z9 F9 G9 (Eo9 0 0) ++ mW mo ma cs J1 G1m) ++ [(ou, .inl (cL, 1, .inr (.inl fo9)))]) ++ eP cI N9 Eo9 Er9 En9 Ez9 EF9) := va_D.part (cx := ((xU cI cB cE o9 r9 n9 z9 F9 G9 (Eo9 0 0) ++ mW mo ma cs J1 G1m) ++ [(ou, .inl (cL, 1, .inr (.inl fo9)))])) hD [0, 1, 2, 3, 4, 5, 6, 7, 8, 9, 10, 11, 12, 13, 14, 15, 16, 17, 18, 19, 20, 21, 22, 23, 24, 25, 26, 27, 28, 30, 31, 32, 33, 34, 35, 36, 37, 38, 39, 40, 41, 42, 43, 44, 45, 46, 47, 48, 49, 50, 51, 52, 53, 54, 55, 56, 57, 58, 29] lq_5 rfl
  have hfr9 : (∃ S T S2 T2 : List Nat, xFr S T z F z9 F9 ∧ eFr S2 T2 En Ez EF En9 Ez9 EF9 ∧ (3 ∉ S ∧ 12 ∉ S ∧ 13 ∉ S ∧ 14 ∉ S) ∧ (0 ∉ S2 ∧ 4 ∉ S2 ∧ 7 ∉ S2 ∧ 9 ∉ S2) ∧ 4 ∉ T2) := by rcases (hrelF ()).2 with ⟨-, h1, h2, -⟩ | ⟨⟨h1, h2⟩, -⟩; exact ⟨_, _, _, _, h1, h2, by decide, by decide, by decide⟩; exact ⟨_, _, _, _, h1, h2, by decide, by decide, by decide⟩
  obtain ⟨S9, T9, S29, T29, hf1, hf2, hf3, hf4, hf5⟩ := hfr9
  obtain ⟨hR9, hI9⟩ := st_ask hI hR hf1 hf2 hf3 hf4 hf5 hw
  refine W.eq (g2 := F0 m 532 ls [.int (iz rr1)]) rfl ?_
  refine lv_istore (lv' := [(6, .int (iz rr1)), (5, .int (iz q9)), (4, .int (iz (4 * k))), (3, .ref ou), (2, .ref mo), (1, .ref (o 15)), (0, .ref b)]) hx hb dL_law_532 hl (by decide) rfl (fun ls hl => ?_)
  refine lv_goto (tgt := 689) hx hb dL_law_534 (by decide) ?_
  exact kk o9 r9 n9 z9 F9 G9 N9 Eo9 Er9 En9 Ez9 EF9 fo9 J1 G1m H _ _ _ ls (ho9 15 (by decide) (by decide)) hok9 hxG9 hPE9 hI9 hR9 hP hD hS hlc.1 hls.1 (lv_sub hl [2, 3, 4, 5, 6] rfl)
set_option maxHeartbeats 4000000 in
set_option maxRecDepth 100000 in
theorem law_compare {p : Program} {l : Launch} {e : Env} {s : State} {m : MethodId} {below : List Frame} {meth : Method} {c : Code} {b : Nat} {dC : Nat → ClassId} {dI : Nat → Nat → Nat} {cI cB cE cL : ClassId} {cs : Nat → ClassId} {mo : Nat} {ma : Nat → Nat} {ou xr : Nat} {L : Nat} {xs : Nat → Int32} {k : Int} (hlf : l.stackTraces = false) (C0 : lw_At p s m meth c b L xs) (hL : L ≤ 256) (hk : 0 ≤ k ∧ 4 * k + 4 ≤ (L : Int)) (hK : va_K (dC, dI) kxCl (lT cI cB cE cL cs) s) (kk : LW p l e s m below meth c b dC dI cI cB cE cL cs mo ma ou xr k (k + 1) 689) : LW p l e s m below meth c b dC dI cI cB cE cL cs mo ma ou xr k k 537 := by
  obtain ⟨hx, hb, hr, hml, hown, hts0, hX, hbl, hlocks, hgv⟩ := id C0
  have hown : s.vm.findClass RL = some m.cls := hown
  have hA : ∀ q : Nat, s.heap.size ≤ q → (fun q : Nat => s.heap.size ≤ q) q := fun _ h => h
  have hbA : ¬ (fun q : Nat => s.heap.size ≤ q) b := Nat.not_le.mpr hbl
  have hG : kx_G s := ⟨s, _, hts0, hgv, State.WarmedH.refl s⟩
  have hZ : kx_Z (fun q : Nat => s.heap.size ≤ q) s s.heap := law_Z hts0 hgv
  have hts := kx_hts (a := #[Value.ref b]) hG
  intro o r n z F G N Eo Er En Ez EF fo I Fm H locs cells slots ls hxr hok hxG hPE hI hR hP hD hS hcl hsl hl
  subst hxr
  obtain ⟨hN1, hN2, hN3, hN4⟩ := id hxG
  have hz78 := hR.2.1
  have hk64 := hI.2.1.1
  have hk01 : 0 ≤ k ∧ k < 64 := by omega
  obtain ⟨a1, ea1, a1l, a1h⟩ := iz_of (xs (iz (4 * k + 1)).toNatClampNeg)
  obtain ⟨a2, ea2, a2l, a2h⟩ := iz_of (xs (iz (4 * k + 2)).toNatClampNeg)
  obtain ⟨a3, ea3, a3l, a3h⟩ := iz_of (xs (iz (4 * k + 3)).toNatClampNeg)
  refine lv_aload_n hx hb dL_law_537 rfl (lv_at hl 3 rfl) ?_
  refine lv_aload_n hx hb dL_law_538 rfl (lv_at hl 4 rfl) ?_
  refine lv_iload hx hb dL_law_539 (lv_at hl 0 rfl) ?_
  refine lv_iconst (v := iz 1) hx hb dL_law_541 (by decide) ?_
  refine ki_iadd hx hb dL_law_542 ?_
  refine va_sld hx hb hX hbl hbA hS (iz_in (by omega) (by omega) (by omega)) dL_law_543 ?_
  refine ki_is ea1 ?_
  refine lv_aload_n hx hb dL_law_544 rfl (lv_at hl 4 rfl) ?_
  refine lv_iload hx hb dL_law_545 (lv_at hl 0 rfl) ?_
  refine lv_iconst (v := iz 2) hx hb dL_law_547 (by decide) ?_
  refine ki_iadd hx hb dL_law_548 ?_
  refine va_sld hx hb hX hbl hbA hS (iz_in (by omega) (by omega) (by omega)) dL_law_549 ?_
  refine ki_is ea2 ?_
  refine lv_aload_n hx hb dL_law_550 rfl (lv_at hl 1 rfl) ?_
  have hPc : va_P (dC, dI) kxCl ((xU cI cB cE o r n z F G (Eo 0 0) ++ [(ou, .inl (cL, 1, .inr (.inl fo)))]) ++ eP cI N Eo Er En Ez EF) H := va_P.part (cx := xU cI cB cE o r n z F G (Eo 0 0) ++ [(ou, .inl (cL, 1, .inr (.inl fo)))]) hP [0, 1, 2, 3, 4, 5, 6, 7, 8, 9, 10, 11, 12, 13, 14, 15, 16, 17, 18, 19, 20, 21, 22, 23, 24, 25, 26, 27, 28, 58] rfl
  have hDc : va_D (fun q : Nat => s.heap.size ≤ q) ((xU cI cB cE o r n z F G (Eo 0 0) ++ [(ou, .inl (cL, 1, .inr (.inl fo)))]) ++ eP cI N Eo Er En Ez EF) := va_D.part (cx := xU cI cB cE o r n z F G (Eo 0 0) ++ [(ou, .inl (cL, 1, .inr (.inl fo)))]) hD [0, 1, 2, 3, 4, 5, 6, 7, 8, 9, 10, 11, 12, 13, 14, 15, 16, 17, 18, 19, 20, 21, 22, 23, 24, 25, 26, 27, 28, 58] lq_0 rfl
  have hFc := va_freeP (cx := xU cI cB cE o r n z F G (Eo 0 0) ++ [(ou, .inl (cL, 1, .inr (.inl fo)))]) hD hS hA [0, 1, 2, 3, 4, 5, 6, 7, 8, 9, 10, 11, 12, 13, 14, 15, 16, 17, 18, 19, 20, 21, 22, 23, 24, 25, 26, 27, 28, 58] rfl
  have hKc := hK.sub (tys' := [(cI, .int), (cB, .byte), (cE, .object RX0), (cL, .long)]) [0, 1, 2, 31] rfl
  refine xk_call (vx_runSW (As := [.ref (o 15), .int (iz a1), .int (iz a2), .ref ou]) (rest := []) ⟨hx, hb, hml, hown, hts⟩ (h_compare l hlf dC dI cI cB cE cL o r n z F G N Eo Er En Ez EF ou fo a1 a2 H.size hok hxG hPE (by omega) (by omega) (by omega) (by omega)) (vx_cwSW 4 hts (kx_gS kq_27_law_61 kq_27_law_62 kq_27_law_2 kq_25_xhelp_48 rfl) rfl rfl rfl (by decide +kernel) ⟨Nat.le_of_ble_eq_true rfl, Nat.le_of_ble_eq_true rfl⟩) ⟨kx_blind, kx_give (ws := []) (tys := []) hPc hDc hKc hG hZ hS hFc⟩ rfl rfl hl.1 rfl (lv_room (Nat.le_of_ble_eq_true rfl)) dL_law_551 ⟨show cells + 100 ≤ 600384 from (by omega), show slots + 42000 ≤ 7291369 from (by omega)⟩) hS (fun q _ h => hFc q h) hFc (fun u dn9 dm9 t H1 locs ht hvm hq hB hk1 hS => ?_)
  obtain ⟨q9, fo9, o9, r9, n9, z9, F9, G9, N9, Eo9, Er9, En9, Ez9, EF9⟩ := u
  obtain ⟨hP1, hK1, hD1⟩ := hB
  rw [ht] at hP1
  try dsimp only at hq
  obtain ⟨hP, hD⟩ := va_joinP (wr := mW mo ma cs I Fm) (rx := xU cI cB cE o9 r9 n9 z9 F9 G9 (Eo9 0 0) ++ [(ou, .inl (cL, 1, .inr (.inl fo9)))]) (pl1 := eP cI N9 Eo9 Er9 En9 Ez9 EF9) hP hD [0, 1, 2, 3, 4, 5, 6, 7, 8, 9, 10, 11, 12, 13, 14, 15, 16, 17, 18, 19, 20, 21, 22, 23, 24, 25, 26, 27, 28, 58] [29, 30, 31, 32, 33, 34, 35, 36, 37, 38, 39, 40, 41, 42, 43, 44, 45, 46, 47, 48, 49, 50, 51, 52, 53, 54, 55, 56, 57] rfl rfl lq_1 lq_2 hk1 hFc hP1 hD1
  generalize H1 = H at hP hS ⊢
  have hP : va_P (dC, dI) kxCl (((xU cI cB cE o9 r9 n9 z9 F9 G9 (Eo9 0 0) ++ mW mo ma cs I Fm) ++ [(ou, .inl (cL, 1, .inr (.inl fo9)))]) ++ eP cI N9 Eo9 Er9 En9 Ez9 EF9) H := va_P.part (cx := ((xU cI cB cE o9 r9 n9 z9 F9 G9 (Eo9 0 0) ++ mW mo ma cs I Fm) ++ [(ou, .inl (cL, 1, .inr (.inl fo9)))])) hP [29, 30, 31, 32, 33, 34, 35, 36, 37, 38, 39, 40, 41, 42, 43, 44, 45, 46, 47, 48, 49, 50, 51, 52, 53, 54, 55, 56, 57, 0, 1, 2, 3, 4, 5, 6, 7, 8, 9, 10, 11, 12, 13, 14, 15, 16, 17, 18, 19, 20, 21, 22, 23, 24, 25, 26, 27, 28, 58] rfl
  have hD : va_D (fun q : Nat => s.heap.size ≤ q) (((xU cI cB cE o9 r9 n9 z9 F9 G9 (Eo9 0 0) ++ mW mo ma cs I Fm) ++ [(ou, .inl (cL, 1, .inr (.inl fo9)))]) ++ eP cI N9 Eo9 Er9 En9 Ez9 EF9) := va_D.part (cx := ((xU cI cB cE o9 r9 n9 z9 F9 G9 (Eo9 0 0) ++ mW mo ma cs I Fm) ++ [(ou, .inl (cL, 1, .inr (.inl fo9)))])) hD [29, 30, 31, 32, 33, 34, 35, 36, 37, 38, 39, 40, 41, 42, 43, 44, 45, 46, 47, 48, 49, 50, 51, 52, 53, 54, 55, 56, 57, 0, 1, 2, 3, 4, 5, 6, 7, 8, 9, 10, 11, 12, 13, 14, 15, 16, 17, 18, 19, 20, 21, 22, 23, 24, 25, 26, 27, 28, 58] lq_3 rfl
  obtain ⟨hok9, hxG9, hPE9, hcost, ho9, hrel⟩ := hq
  have hrelF := fun (_ : Unit) => hrel
  clear hrel
  have hlc := lcC hcl (Nat.le_trans hcost.1 (by decide)) hk01
  have hls := lcS hsl (Nat.le_trans hcost.2 (by decide)) hk01
  refine W.eq (g2 := F0 m 554 ls [.int (iz q9)]) rfl ?_
  refine lv_istore (lv' := [(5, .int (iz q9)), (4, .int (iz (4 * k))), (3, .ref ou), (2, .ref mo), (1, .ref (o 15)), (0, .ref b)]) hx hb dL_law_554 hl (by decide) rfl (fun ls hl => ?_)
  refine lv_aload_n hx hb dL_law_556 rfl (lv_at hl 3 rfl) ?_
  refine lv_aload_n hx hb dL_law_557 rfl (lv_at hl 5 rfl) ?_
  refine lv_iload hx hb dL_law_558 (lv_at hl 1 rfl) ?_
  refine lv_iconst (v := iz 1) hx hb dL_law_560 (by decide) ?_
  refine ki_iadd hx hb dL_law_561 ?_
  refine va_sld hx hb hX hbl hbA hS (iz_in (by omega) (by omega) (by omega)) dL_law_562 ?_
  refine ki_is ea1 ?_
  refine lv_aload_n hx hb dL_law_563 rfl (lv_at hl 5 rfl) ?_
  refine lv_iload hx hb dL_law_564 (lv_at hl 1 rfl) ?_
  refine lv_iconst (v := iz 2) hx hb dL_law_566 (by decide) ?_
  refine ki_iadd hx hb dL_law_567 ?_
  refine va_sld hx hb hX hbl hbA hS (iz_in (by omega) (by omega) (by omega)) dL_law_568 ?_
  refine ki_is ea2 ?_
  have hPc := hP.sub (ws' := mW mo ma cs I Fm) [29, 30, 31, 32, 33, 34, 35, 36, 37, 38, 39, 40, 41, 42, 43, 44, 45, 46, 47, 48, 49, 50, 51, 52, 53, 54, 55, 56, 57] rfl
  have hDc := hD.sub (ws' := mW mo ma cs I Fm) [29, 30, 31, 32, 33, 34, 35, 36, 37, 38, 39, 40, 41, 42, 43, 44, 45, 46, 47, 48, 49, 50, 51, 52, 53, 54, 55, 56, 57] lq_1 rfl
  have hFc := va_free (wc := mW mo ma cs I Fm) hD hS hA [29, 30, 31, 32, 33, 34, 35, 36, 37, 38, 39, 40, 41, 42, 43, 44, 45, 46, 47, 48, 49, 50, 51, 52, 53, 54, 55, 56, 57] rfl
  have hKc := hK.sub (tys' := mT cs) [3, 4, 5, 6, 7, 8, 9, 10, 11, 12, 13, 14, 15, 16, 17, 18, 19, 20, 21, 22, 23, 24, 25, 26, 27, 28, 29, 30] rfl
  refine va_calli (va_runV (As := [.int (iz a1), .int (iz a2)]) (rest := []) ⟨hx, hb, hml, hown, hts⟩ (k_compare l dC dI mo ma cs I Fm a1 a2 H.size hI.1 (by omega) (by omega) (by omega) (by omega)) (cwV 2 hts (kx_gV kq_27_law_63 kq_27_law_64 kq_27_law_65 kq_04_msmall_6 kq_27_law_66 rfl) rfl rfl rfl (by decide +kernel) ⟨Nat.le_of_ble_eq_true rfl, Nat.le_of_ble_eq_true rfl⟩) ⟨kx_blind, va_recv hKc hPc (ci := 6) (q0 := 0) rfl rfl, kx_give (ws := []) (tys := []) hPc hDc hKc hG hZ hS hFc⟩ rfl rfl hl.1 rfl (lv_room (Nat.le_of_ble_eq_true rfl)) dL_law_569 ⟨show (cells + dn9) + 0 ≤ 600384 from (Nat.le_trans hlc.2 (by decide)), show (slots + dm9) + 0 ≤ 7291369 from (Nat.le_trans hls.2 (by decide))⟩) hS (fun q _ h => hFc q h) hFc (fun r u t H1 locs ht hvm hw hB hz1 hk1 hS => ?_)
  obtain ⟨rr1, J1, G1m⟩ := u
  obtain ⟨hP1, hK1, hD1⟩ := hB
  rw [ht] at hP1
  obtain ⟨e1, hw⟩ := hw
  subst e1
  try dsimp only at hw
  obtain ⟨hP, hD⟩ := va_joinQ (wr := xU cI cB cE o9 r9 n9 z9 F9 G9 (Eo9 0 0) ++ [(ou, .inl (cL, 1, .inr (.inl fo9)))]) (w1 := mW mo ma cs J1 G1m) hP hD [29, 30, 31, 32, 33, 34, 35, 36, 37, 38, 39, 40, 41, 42, 43, 44, 45, 46, 47, 48, 49, 50, 51, 52, 53, 54, 55, 56, 57] [0, 1, 2, 3, 4, 5, 6, 7, 8, 9, 10, 11, 12, 13, 14, 15, 16, 17, 18, 19, 20, 21, 22, 23, 24, 25, 26, 27, 28, 58] rfl rfl lq_0 lq_4 hk1 hFc hP1 hD1
  generalize H1 = H at hP hS ⊢
  have hP : va_P (dC, dI) kxCl (((xU cI cB cE o9 r9 n9 z9 F9 G9 (Eo9 0 0) ++ mW mo ma cs J1 G1m) ++ [(ou, .inl (cL, 1, .inr (.inl fo9)))]) ++ eP cI N9 Eo9 Er9 En9 Ez9 EF9) H := va_P.part (cx := ((xU cI cB cE o9 r9 n9 z9 F9 G9 (Eo9 0 0) ++ mW mo ma cs J1 G1m) ++ [(ou, .inl (cL, 1, .inr (.inl fo9)))])) hP [0, 1, 2, 3, 4, 5, 6, 7, 8, 9, 10, 11, 12, 13, 14, 15, 16, 17, 18, 19, 20, 21, 22, 23, 24, 25, 26, 27, 28, 30, 31, 32, 33, 34, 35, 36, 37, 38, 39, 40, 41, 42, 43, 44, 45, 46, 47, 48, 49, 50, 51, 52, 53, 54, 55, 56, 57, 58, 29] rfl
  have hD : va_D (fun q : Nat => s.heap.size ≤ q) (((xU cI cB cE o9 r9 n9 z9 F9 G9 (Eo9 0 0) ++ mW mo ma cs J1 G1m) ++ [(ou, .inl (cL, 1, .inr (.inl fo9)))]) ++ eP cI N9 Eo9 Er9 En9 Ez9 EF9) := va_D.part (cx := ((xU cI cB cE o9 r9 n9 z9 F9 G9 (Eo9 0 0) ++ mW mo ma cs J1 G1m) ++ [(ou, .inl (cL, 1, .inr (.inl fo9)))])) hD [0, 1, 2, 3, 4, 5, 6, 7, 8, 9, 10, 11, 12, 13, 14, 15, 16, 17, 18, 19, 20, 21, 22, 23, 24, 25, 26, 27, 28, 30, 31, 32, 33, 34, 35, 36, 37, 38, 39, 40, 41, 42, 43, 44, 45, 46, 47, 48, 49, 50, 51, 52, 53, 54, 55, 56, 57, 58, 29] lq_5 rfl
  have hfr9 : (∃ S T S2 T2 : List Nat, xFr S T z F z9 F9 ∧ eFr S2 T2 En Ez EF En9 Ez9 EF9 ∧ (3 ∉ S ∧ 12 ∉ S ∧ 13 ∉ S ∧ 14 ∉ S) ∧ (0 ∉ S2 ∧ 4 ∉ S2 ∧ 7 ∉ S2 ∧ 9 ∉ S2) ∧ 4 ∉ T2) := by rcases (hrelF ()).2 with ⟨-, h1, h2, -⟩ | ⟨⟨h1, h2⟩, -⟩; exact ⟨_, _, _, _, h1, h2, by decide, by decide, by decide⟩; exact ⟨_, _, _, _, h1, h2, by decide, by decide, by decide⟩
  obtain ⟨S9, T9, S29, T29, hf1, hf2, hf3, hf4, hf5⟩ := hfr9
  obtain ⟨hR9, hI9⟩ := st_ask hI hR hf1 hf2 hf3 hf4 hf5 hw
  refine W.eq (g2 := F0 m 572 ls [.int (iz rr1)]) rfl ?_
  refine lv_istore (lv' := [(6, .int (iz rr1)), (5, .int (iz q9)), (4, .int (iz (4 * k))), (3, .ref ou), (2, .ref mo), (1, .ref (o 15)), (0, .ref b)]) hx hb dL_law_572 hl (by decide) rfl (fun ls hl => ?_)
  refine lv_goto (tgt := 689) hx hb dL_law_574 (by decide) ?_
  exact kk o9 r9 n9 z9 F9 G9 N9 Eo9 Er9 En9 Ez9 EF9 fo9 J1 G1m H _ _ _ ls (ho9 15 (by decide) (by decide)) hok9 hxG9 hPE9 hI9 hR9 hP hD hS hlc.1 hls.1 (lv_sub hl [2, 3, 4, 5, 6] rfl)
set_option maxHeartbeats 4000000 in
set_option maxRecDepth 100000 in
theorem law_told {p : Program} {l : Launch} {e : Env} {s : State} {m : MethodId} {below : List Frame} {meth : Method} {c : Code} {b : Nat} {dC : Nat → ClassId} {dI : Nat → Nat → Nat} {cI cB cE cL : ClassId} {cs : Nat → ClassId} {mo : Nat} {ma : Nat → Nat} {ou xr : Nat} {L : Nat} {xs : Nat → Int32} {k : Int} (hlf : l.stackTraces = false) (C0 : lw_At p s m meth c b L xs) (hL : L ≤ 256) (hk : 0 ≤ k ∧ 4 * k + 4 ≤ (L : Int)) (hK : va_K (dC, dI) kxCl (lT cI cB cE cL cs) s) (kk : LW p l e s m below meth c b dC dI cI cB cE cL cs mo ma ou xr k (k + 1) 689) : LW p l e s m below meth c b dC dI cI cB cE cL cs mo ma ou xr k k 577 := by
  obtain ⟨hx, hb, hr, hml, hown, hts0, hX, hbl, hlocks, hgv⟩ := id C0
  have hown : s.vm.findClass RL = some m.cls := hown
  have hA : ∀ q : Nat, s.heap.size ≤ q → (fun q : Nat => s.heap.size ≤ q) q := fun _ h => h
  have hbA : ¬ (fun q : Nat => s.heap.size ≤ q) b := Nat.not_le.mpr hbl
  have hG : kx_G s := ⟨s, _, hts0, hgv, State.WarmedH.refl s⟩
  have hZ : kx_Z (fun q : Nat => s.heap.size ≤ q) s s.heap := law_Z hts0 hgv
  have hts := kx_hts (a := #[Value.ref b]) hG
  intro o r n z F G N Eo Er En Ez EF fo I Fm H locs cells slots ls hxr hok hxG hPE hI hR hP hD hS hcl hsl hl
  subst hxr
  obtain ⟨hN1, hN2, hN3, hN4⟩ := id hxG
  have hz78 := hR.2.1
  have hk64 := hI.2.1.1
  have hk01 : 0 ≤ k ∧ k < 64 := by omega
  obtain ⟨a1, ea1, a1l, a1h⟩ := iz_of (xs (iz (4 * k + 1)).toNatClampNeg)
  obtain ⟨a2, ea2, a2l, a2h⟩ := iz_of (xs (iz (4 * k + 2)).toNatClampNeg)
  obtain ⟨a3, ea3, a3l, a3h⟩ := iz_of (xs (iz (4 * k + 3)).toNatClampNeg)
  refine lv_aload_n hx hb dL_law_577 rfl (lv_at hl 3 rfl) ?_
  refine lv_aload_n hx hb dL_law_578 rfl (lv_at hl 4 rfl) ?_
  refine lv_iload hx hb dL_law_579 (lv_at hl 0 rfl) ?_
  refine lv_iconst (v := iz 1) hx hb dL_law_581 (by decide) ?_
  refine ki_iadd hx hb dL_law_582 ?_
  refine va_sld hx hb hX hbl hbA hS (iz_in (by omega) (by omega) (by omega)) dL_law_583 ?_
  refine ki_is ea1 ?_
  refine lv_aload_n hx hb dL_law_584 rfl (lv_at hl 4 rfl) ?_
  refine lv_iload hx hb dL_law_585 (lv_at hl 0 rfl) ?_
  refine lv_iconst (v := iz 2) hx hb dL_law_587 (by decide) ?_
  refine ki_iadd hx hb dL_law_588 ?_
  refine va_sld hx hb hX hbl hbA hS (iz_in (by omega) (by omega) (by omega)) dL_law_589 ?_
  refine ki_is ea2 ?_
  refine lv_aload_n hx hb dL_law_590 rfl (lv_at hl 1 rfl) ?_
  have hPc : va_P (dC, dI) kxCl ((xU cI cB cE o r n z F G (Eo 0 0) ++ [(ou, .inl (cL, 1, .inr (.inl fo)))]) ++ eP cI N Eo Er En Ez EF) H := va_P.part (cx := xU cI cB cE o r n z F G (Eo 0 0) ++ [(ou, .inl (cL, 1, .inr (.inl fo)))]) hP [0, 1, 2, 3, 4, 5, 6, 7, 8, 9, 10, 11, 12, 13, 14, 15, 16, 17, 18, 19, 20, 21, 22, 23, 24, 25, 26, 27, 28, 58] rfl
  have hDc : va_D (fun q : Nat => s.heap.size ≤ q) ((xU cI cB cE o r n z F G (Eo 0 0) ++ [(ou, .inl (cL, 1, .inr (.inl fo)))]) ++ eP cI N Eo Er En Ez EF) := va_D.part (cx := xU cI cB cE o r n z F G (Eo 0 0) ++ [(ou, .inl (cL, 1, .inr (.inl fo)))]) hD [0, 1, 2, 3, 4, 5, 6, 7, 8, 9, 10, 11, 12, 13, 14, 15, 16, 17, 18, 19, 20, 21, 22, 23, 24, 25, 26, 27, 28, 58] lq_0 rfl
  have hFc := va_freeP (cx := xU cI cB cE o r n z F G (Eo 0 0) ++ [(ou, .inl (cL, 1, .inr (.inl fo)))]) hD hS hA [0, 1, 2, 3, 4, 5, 6, 7, 8, 9, 10, 11, 12, 13, 14, 15, 16, 17, 18, 19, 20, 21, 22, 23, 24, 25, 26, 27, 28, 58] rfl
  have hKc := hK.sub (tys' := [(cI, .int), (cB, .byte), (cE, .object RX0), (cL, .long)]) [0, 1, 2, 31] rfl
  refine xk_call (vx_runSW (As := [.ref (o 15), .int (iz a1), .int (iz a2), .ref ou]) (rest := []) ⟨hx, hb, hml, hown, hts⟩ (h_told l hlf dC dI cI cB cE cL o r n z F G N Eo Er En Ez EF ou fo a1 a2 H.size hok hxG hPE (by omega) (by omega) (by omega) (by omega)) (vx_cwSW 4 hts (kx_gS kq_27_law_67 kq_27_law_68 kq_27_law_2 kq_25_xhelp_53 rfl) rfl rfl rfl (by decide +kernel) ⟨Nat.le_of_ble_eq_true rfl, Nat.le_of_ble_eq_true rfl⟩) ⟨kx_blind, kx_give (ws := []) (tys := []) hPc hDc hKc hG hZ hS hFc⟩ rfl rfl hl.1 rfl (lv_room (Nat.le_of_ble_eq_true rfl)) dL_law_591 ⟨show cells + 1200 ≤ 600384 from (by omega), show slots + 600000 ≤ 7291369 from (by omega)⟩) hS (fun q _ h => hFc q h) hFc (fun u dn9 dm9 t H1 locs ht hvm hq hB hk1 hS => ?_)
  obtain ⟨q9, fo9, o9, r9, n9, z9, F9, G9, N9, Eo9, Er9, En9, Ez9, EF9⟩ := u
  obtain ⟨hP1, hK1, hD1⟩ := hB
  rw [ht] at hP1
  try dsimp only at hq
  obtain ⟨hP, hD⟩ := va_joinP (wr := mW mo ma cs I Fm) (rx := xU cI cB cE o9 r9 n9 z9 F9 G9 (Eo9 0 0) ++ [(ou, .inl (cL, 1, .inr (.inl fo9)))]) (pl1 := eP cI N9 Eo9 Er9 En9 Ez9 EF9) hP hD [0, 1, 2, 3, 4, 5, 6, 7, 8, 9, 10, 11, 12, 13, 14, 15, 16, 17, 18, 19, 20, 21, 22, 23, 24, 25, 26, 27, 28, 58] [29, 30, 31, 32, 33, 34, 35, 36, 37, 38, 39, 40, 41, 42, 43, 44, 45, 46, 47, 48, 49, 50, 51, 52, 53, 54, 55, 56, 57] rfl rfl lq_1 lq_2 hk1 hFc hP1 hD1
  generalize H1 = H at hP hS ⊢
  have hP : va_P (dC, dI) kxCl (((xU cI cB cE o9 r9 n9 z9 F9 G9 (Eo9 0 0) ++ mW mo ma cs I Fm) ++ [(ou, .inl (cL, 1, .inr (.inl fo9)))]) ++ eP cI N9 Eo9 Er9 En9 Ez9 EF9) H := va_P.part (cx := ((xU cI cB cE o9 r9 n9 z9 F9 G9 (Eo9 0 0) ++ mW mo ma cs I Fm) ++ [(ou, .inl (cL, 1, .inr (.inl fo9)))])) hP [29, 30, 31, 32, 33, 34, 35, 36, 37, 38, 39, 40, 41, 42, 43, 44, 45, 46, 47, 48, 49, 50, 51, 52, 53, 54, 55, 56, 57, 0, 1, 2, 3, 4, 5, 6, 7, 8, 9, 10, 11, 12, 13, 14, 15, 16, 17, 18, 19, 20, 21, 22, 23, 24, 25, 26, 27, 28, 58] rfl
  have hD : va_D (fun q : Nat => s.heap.size ≤ q) (((xU cI cB cE o9 r9 n9 z9 F9 G9 (Eo9 0 0) ++ mW mo ma cs I Fm) ++ [(ou, .inl (cL, 1, .inr (.inl fo9)))]) ++ eP cI N9 Eo9 Er9 En9 Ez9 EF9) := va_D.part (cx := ((xU cI cB cE o9 r9 n9 z9 F9 G9 (Eo9 0 0) ++ mW mo ma cs I Fm) ++ [(ou, .inl (cL, 1, .inr (.inl fo9)))])) hD [29, 30, 31, 32, 33, 34, 35, 36, 37, 38, 39, 40, 41, 42, 43, 44, 45, 46, 47, 48, 49, 50, 51, 52, 53, 54, 55, 56, 57, 0, 1, 2, 3, 4, 5, 6, 7, 8, 9, 10, 11, 12, 13, 14, 15, 16, 17, 18, 19, 20, 21, 22, 23, 24, 25, 26, 27, 28, 58] lq_3 rfl
  obtain ⟨hok9, hxG9, hPE9, hcost, ho9, hrel⟩ := hq
  have hrelF := fun (_ : Unit) => hrel
  clear hrel
  have hlc := lcC hcl (Nat.le_trans hcost.1 (by decide)) hk01
  have hls := lcS hsl (Nat.le_trans hcost.2 (by decide)) hk01
  refine W.eq (g2 := F0 m 594 ls [.int (iz q9)]) rfl ?_
  refine lv_istore (lv' := [(5, .int (iz q9)), (4, .int (iz (4 * k))), (3, .ref ou), (2, .ref mo), (1, .ref (o 15)), (0, .ref b)]) hx hb dL_law_594 hl (by decide) rfl (fun ls hl => ?_)
  refine lv_aload_n hx hb dL_law_596 rfl (lv_at hl 3 rfl) ?_
  refine lv_aload_n hx hb dL_law_597 rfl (lv_at hl 5 rfl) ?_
  refine lv_iload hx hb dL_law_598 (lv_at hl 1 rfl) ?_
  refine lv_iconst (v := iz 1) hx hb dL_law_600 (by decide) ?_
  refine ki_iadd hx hb dL_law_601 ?_
  refine va_sld hx hb hX hbl hbA hS (iz_in (by omega) (by omega) (by omega)) dL_law_602 ?_
  refine ki_is ea1 ?_
  refine lv_aload_n hx hb dL_law_603 rfl (lv_at hl 5 rfl) ?_
  refine lv_iload hx hb dL_law_604 (lv_at hl 1 rfl) ?_
  refine lv_iconst (v := iz 2) hx hb dL_law_606 (by decide) ?_
  refine ki_iadd hx hb dL_law_607 ?_
  refine va_sld hx hb hX hbl hbA hS (iz_in (by omega) (by omega) (by omega)) dL_law_608 ?_
  refine ki_is ea2 ?_
  have hPc := hP.sub (ws' := mW mo ma cs I Fm) [29, 30, 31, 32, 33, 34, 35, 36, 37, 38, 39, 40, 41, 42, 43, 44, 45, 46, 47, 48, 49, 50, 51, 52, 53, 54, 55, 56, 57] rfl
  have hDc := hD.sub (ws' := mW mo ma cs I Fm) [29, 30, 31, 32, 33, 34, 35, 36, 37, 38, 39, 40, 41, 42, 43, 44, 45, 46, 47, 48, 49, 50, 51, 52, 53, 54, 55, 56, 57] lq_1 rfl
  have hFc := va_free (wc := mW mo ma cs I Fm) hD hS hA [29, 30, 31, 32, 33, 34, 35, 36, 37, 38, 39, 40, 41, 42, 43, 44, 45, 46, 47, 48, 49, 50, 51, 52, 53, 54, 55, 56, 57] rfl
  have hKc := hK.sub (tys' := mT cs) [3, 4, 5, 6, 7, 8, 9, 10, 11, 12, 13, 14, 15, 16, 17, 18, 19, 20, 21, 22, 23, 24, 25, 26, 27, 28, 29, 30] rfl
  refine va_calli (va_runV (As := [.int (iz a1), .int (iz a2)]) (rest := []) ⟨hx, hb, hml, hown, hts⟩ (k_told l dC dI mo ma cs I Fm a1 a2 H.size hI.1 (by omega) (by omega) (by omega) (by omega)) (cwV 2 hts (kx_gV kq_27_law_69 kq_27_law_70 kq_27_law_71 kq_04_msmall_6 kq_27_law_72 rfl) rfl rfl rfl (by decide +kernel) ⟨Nat.le_of_ble_eq_true rfl, Nat.le_of_ble_eq_true rfl⟩) ⟨kx_blind, va_recv hKc hPc (ci := 6) (q0 := 0) rfl rfl, kx_give (ws := []) (tys := []) hPc hDc hKc hG hZ hS hFc⟩ rfl rfl hl.1 rfl (lv_room (Nat.le_of_ble_eq_true rfl)) dL_law_609 ⟨show (cells + dn9) + 0 ≤ 600384 from (Nat.le_trans hlc.2 (by decide)), show (slots + dm9) + 0 ≤ 7291369 from (Nat.le_trans hls.2 (by decide))⟩) hS (fun q _ h => hFc q h) hFc (fun r u t H1 locs ht hvm hw hB hz1 hk1 hS => ?_)
  obtain ⟨rr1, J1, G1m⟩ := u
  obtain ⟨hP1, hK1, hD1⟩ := hB
  rw [ht] at hP1
  obtain ⟨e1, hw⟩ := hw
  subst e1
  try dsimp only at hw
  obtain ⟨hP, hD⟩ := va_joinQ (wr := xU cI cB cE o9 r9 n9 z9 F9 G9 (Eo9 0 0) ++ [(ou, .inl (cL, 1, .inr (.inl fo9)))]) (w1 := mW mo ma cs J1 G1m) hP hD [29, 30, 31, 32, 33, 34, 35, 36, 37, 38, 39, 40, 41, 42, 43, 44, 45, 46, 47, 48, 49, 50, 51, 52, 53, 54, 55, 56, 57] [0, 1, 2, 3, 4, 5, 6, 7, 8, 9, 10, 11, 12, 13, 14, 15, 16, 17, 18, 19, 20, 21, 22, 23, 24, 25, 26, 27, 28, 58] rfl rfl lq_0 lq_4 hk1 hFc hP1 hD1
  generalize H1 = H at hP hS ⊢
  have hP : va_P (dC, dI) kxCl (((xU cI cB cE o9 r9 n9 z9 F9 G9 (Eo9 0 0) ++ mW mo ma cs J1 G1m) ++ [(ou, .inl (cL, 1, .inr (.inl fo9)))]) ++ eP cI N9 Eo9 Er9 En9 Ez9 EF9) H := va_P.part (cx := ((xU cI cB cE o9 r9 n9 z9 F9 G9 (Eo9 0 0) ++ mW mo ma cs J1 G1m) ++ [(ou, .inl (cL, 1, .inr (.inl fo9)))])) hP [0, 1, 2, 3, 4, 5, 6, 7, 8, 9, 10, 11, 12, 13, 14, 15, 16, 17, 18, 19, 20, 21, 22, 23, 24, 25, 26, 27, 28, 30, 31, 32, 33, 34, 35, 36, 37, 38, 39, 40, 41, 42, 43, 44, 45, 46, 47, 48, 49, 50, 51, 52, 53, 54, 55, 56, 57, 58, 29] rfl
  have hD : va_D (fun q : Nat => s.heap.size ≤ q) (((xU cI cB cE o9 r9 n9 z9 F9 G9 (Eo9 0 0) ++ mW mo ma cs J1 G1m) ++ [(ou, .inl (cL, 1, .inr (.inl fo9)))]) ++ eP cI N9 Eo9 Er9 En9 Ez9 EF9) := va_D.part (cx := ((xU cI cB cE o9 r9 n9 z9 F9 G9 (Eo9 0 0) ++ mW mo ma cs J1 G1m) ++ [(ou, .inl (cL, 1, .inr (.inl fo9)))])) hD [0, 1, 2, 3, 4, 5, 6, 7, 8, 9, 10, 11, 12, 13, 14, 15, 16, 17, 18, 19, 20, 21, 22, 23, 24, 25, 26, 27, 28, 30, 31, 32, 33, 34, 35, 36, 37, 38, 39, 40, 41, 42, 43, 44, 45, 46, 47, 48, 49, 50, 51, 52, 53, 54, 55, 56, 57, 58, 29] lq_5 rfl
  have hfr9 : (∃ S T S2 T2 : List Nat, xFr S T z F z9 F9 ∧ eFr S2 T2 En Ez EF En9 Ez9 EF9 ∧ (3 ∉ S ∧ 12 ∉ S ∧ 13 ∉ S ∧ 14 ∉ S) ∧ (0 ∉ S2 ∧ 4 ∉ S2 ∧ 7 ∉ S2 ∧ 9 ∉ S2) ∧ 4 ∉ T2) := by rcases (hrelF ()).2 with ⟨-, h1, h2, -⟩ | ⟨⟨h1, h2⟩, -⟩; exact ⟨_, _, _, _, h1, h2, by decide, by decide, by decide⟩; exact ⟨_, _, _, _, h1, h2, by decide, by decide, by decide⟩
  obtain ⟨S9, T9, S29, T29, hf1, hf2, hf3, hf4, hf5⟩ := hfr9
  obtain ⟨hR9, hI9⟩ := st_ask hI hR hf1 hf2 hf3 hf4 hf5 hw
  refine W.eq (g2 := F0 m 612 ls [.int (iz rr1)]) rfl ?_
  refine lv_istore (lv' := [(6, .int (iz rr1)), (5, .int (iz q9)), (4, .int (iz (4 * k))), (3, .ref ou), (2, .ref mo), (1, .ref (o 15)), (0, .ref b)]) hx hb dL_law_612 hl (by decide) rfl (fun ls hl => ?_)
  refine lv_goto (tgt := 689) hx hb dL_law_614 (by decide) ?_
  exact kk o9 r9 n9 z9 F9 G9 N9 Eo9 Er9 En9 Ez9 EF9 fo9 J1 G1m H _ _ _ ls (ho9 15 (by decide) (by decide)) hok9 hxG9 hPE9 hI9 hR9 hP hD hS hlc.1 hls.1 (lv_sub hl [2, 3, 4, 5, 6] rfl)
set_option maxHeartbeats 4000000 in
set_option maxRecDepth 100000 in
theorem law_style {p : Program} {l : Launch} {e : Env} {s : State} {m : MethodId} {below : List Frame} {meth : Method} {c : Code} {b : Nat} {dC : Nat → ClassId} {dI : Nat → Nat → Nat} {cI cB cE cL : ClassId} {cs : Nat → ClassId} {mo : Nat} {ma : Nat → Nat} {ou xr : Nat} {L : Nat} {xs : Nat → Int32} {k : Int} (hlf : l.stackTraces = false) (C0 : lw_At p s m meth c b L xs) (hL : L ≤ 256) (hk : 0 ≤ k ∧ 4 * k + 4 ≤ (L : Int)) (hK : va_K (dC, dI) kxCl (lT cI cB cE cL cs) s) (kk : LW p l e s m below meth c b dC dI cI cB cE cL cs mo ma ou xr k (k + 1) 689) : LW p l e s m below meth c b dC dI cI cB cE cL cs mo ma ou xr k k 617 := by
  obtain ⟨hx, hb, hr, hml, hown, hts0, hX, hbl, hlocks, hgv⟩ := id C0
  have hown : s.vm.findClass RL = some m.cls := hown
  have hA : ∀ q : Nat, s.heap.size ≤ q → (fun q : Nat => s.heap.size ≤ q) q := fun _ h => h
  have hbA : ¬ (fun q : Nat => s.heap.size ≤ q) b := Nat.not_le.mpr hbl
  have hG : kx_G s := ⟨s, _, hts0, hgv, State.WarmedH.refl s⟩
  have hZ : kx_Z (fun q : Nat => s.heap.size ≤ q) s s.heap := law_Z hts0 hgv
  have hts := kx_hts (a := #[Value.ref b]) hG
  intro o r n z F G N Eo Er En Ez EF fo I Fm H locs cells slots ls hxr hok hxG hPE hI hR hP hD hS hcl hsl hl
  subst hxr
  obtain ⟨hN1, hN2, hN3, hN4⟩ := id hxG
  have hz78 := hR.2.1
  have hk64 := hI.2.1.1
  have hk01 : 0 ≤ k ∧ k < 64 := by omega
  obtain ⟨a1, ea1, a1l, a1h⟩ := iz_of (xs (iz (4 * k + 1)).toNatClampNeg)
  obtain ⟨a2, ea2, a2l, a2h⟩ := iz_of (xs (iz (4 * k + 2)).toNatClampNeg)
  obtain ⟨a3, ea3, a3l, a3h⟩ := iz_of (xs (iz (4 * k + 3)).toNatClampNeg)
  refine lv_aload_n hx hb dL_law_617 rfl (lv_at hl 3 rfl) ?_
  refine lv_aload_n hx hb dL_law_618 rfl (lv_at hl 4 rfl) ?_
  refine lv_iload hx hb dL_law_619 (lv_at hl 0 rfl) ?_
  refine lv_iconst (v := iz 1) hx hb dL_law_621 (by decide) ?_
  refine ki_iadd hx hb dL_law_622 ?_
  refine va_sld hx hb hX hbl hbA hS (iz_in (by omega) (by omega) (by omega)) dL_law_623 ?_
  refine ki_is ea1 ?_
  refine lv_aload_n hx hb dL_law_624 rfl (lv_at hl 1 rfl) ?_
  have hPc : va_P (dC, dI) kxCl ((xU cI cB cE o r n z F G (Eo 0 0) ++ [(ou, .inl (cL, 1, .inr (.inl fo)))]) ++ eP cI N Eo Er En Ez EF) H := va_P.part (cx := xU cI cB cE o r n z F G (Eo 0 0) ++ [(ou, .inl (cL, 1, .inr (.inl fo)))]) hP [0, 1, 2, 3, 4, 5, 6, 7, 8, 9, 10, 11, 12, 13, 14, 15, 16, 17, 18, 19, 20, 21, 22, 23, 24, 25, 26, 27, 28, 58] rfl
  have hDc : va_D (fun q : Nat => s.heap.size ≤ q) ((xU cI cB cE o r n z F G (Eo 0 0) ++ [(ou, .inl (cL, 1, .inr (.inl fo)))]) ++ eP cI N Eo Er En Ez EF) := va_D.part (cx := xU cI cB cE o r n z F G (Eo 0 0) ++ [(ou, .inl (cL, 1, .inr (.inl fo)))]) hD [0, 1, 2, 3, 4, 5, 6, 7, 8, 9, 10, 11, 12, 13, 14, 15, 16, 17, 18, 19, 20, 21, 22, 23, 24, 25, 26, 27, 28, 58] lq_0 rfl
  have hFc := va_freeP (cx := xU cI cB cE o r n z F G (Eo 0 0) ++ [(ou, .inl (cL, 1, .inr (.inl fo)))]) hD hS hA [0, 1, 2, 3, 4, 5, 6, 7, 8, 9, 10, 11, 12, 13, 14, 15, 16, 17, 18, 19, 20, 21, 22, 23, 24, 25, 26, 27, 28, 58] rfl
  have hKc := hK.sub (tys' := [(cI, .int), (cB, .byte), (cE, .object RX0), (cL, .long)]) [0, 1, 2, 31] rfl
  refine xk_call (vx_runSW (As := [.ref (o 15), .int (iz a1), .ref ou]) (rest := []) ⟨hx, hb, hml, hown, hts⟩ (h_style l hlf dC dI cI cB cE cL o r n z F G N Eo Er En Ez EF ou fo a1 H.size hok hxG hPE (by omega) (by omega)) (vx_cwSW 3 hts (kx_gS kq_27_law_73 kq_27_law_74 kq_27_law_2 kq_25_xhelp_58 rfl) rfl rfl rfl (by decide +kernel) ⟨Nat.le_of_ble_eq_true rfl, Nat.le_of_ble_eq_true rfl⟩) ⟨kx_blind, kx_give (ws := []) (tys := []) hPc hDc hKc hG hZ hS hFc⟩ rfl rfl hl.1 rfl (lv_room (Nat.le_of_ble_eq_true rfl)) dL_law_625 ⟨show cells + 100 ≤ 600384 from (by omega), show slots + 45000 ≤ 7291369 from (by omega)⟩) hS (fun q _ h => hFc q h) hFc (fun u dn9 dm9 t H1 locs ht hvm hq hB hk1 hS => ?_)
  obtain ⟨q9, fo9, o9, r9, n9, z9, F9, G9, N9, Eo9, Er9, En9, Ez9, EF9⟩ := u
  obtain ⟨hP1, hK1, hD1⟩ := hB
  rw [ht] at hP1
  try dsimp only at hq
  obtain ⟨hP, hD⟩ := va_joinP (wr := mW mo ma cs I Fm) (rx := xU cI cB cE o9 r9 n9 z9 F9 G9 (Eo9 0 0) ++ [(ou, .inl (cL, 1, .inr (.inl fo9)))]) (pl1 := eP cI N9 Eo9 Er9 En9 Ez9 EF9) hP hD [0, 1, 2, 3, 4, 5, 6, 7, 8, 9, 10, 11, 12, 13, 14, 15, 16, 17, 18, 19, 20, 21, 22, 23, 24, 25, 26, 27, 28, 58] [29, 30, 31, 32, 33, 34, 35, 36, 37, 38, 39, 40, 41, 42, 43, 44, 45, 46, 47, 48, 49, 50, 51, 52, 53, 54, 55, 56, 57] rfl rfl lq_1 lq_2 hk1 hFc hP1 hD1
  generalize H1 = H at hP hS ⊢
  have hP : va_P (dC, dI) kxCl (((xU cI cB cE o9 r9 n9 z9 F9 G9 (Eo9 0 0) ++ mW mo ma cs I Fm) ++ [(ou, .inl (cL, 1, .inr (.inl fo9)))]) ++ eP cI N9 Eo9 Er9 En9 Ez9 EF9) H := va_P.part (cx := ((xU cI cB cE o9 r9 n9 z9 F9 G9 (Eo9 0 0) ++ mW mo ma cs I Fm) ++ [(ou, .inl (cL, 1, .inr (.inl fo9)))])) hP [29, 30, 31, 32, 33, 34, 35, 36, 37, 38, 39, 40, 41, 42, 43, 44, 45, 46, 47, 48, 49, 50, 51, 52, 53, 54, 55, 56, 57, 0, 1, 2, 3, 4, 5, 6, 7, 8, 9, 10, 11, 12, 13, 14, 15, 16, 17, 18, 19, 20, 21, 22, 23, 24, 25, 26, 27, 28, 58] rfl
  have hD : va_D (fun q : Nat => s.heap.size ≤ q) (((xU cI cB cE o9 r9 n9 z9 F9 G9 (Eo9 0 0) ++ mW mo ma cs I Fm) ++ [(ou, .inl (cL, 1, .inr (.inl fo9)))]) ++ eP cI N9 Eo9 Er9 En9 Ez9 EF9) := va_D.part (cx := ((xU cI cB cE o9 r9 n9 z9 F9 G9 (Eo9 0 0) ++ mW mo ma cs I Fm) ++ [(ou, .inl (cL, 1, .inr (.inl fo9)))])) hD [29, 30, 31, 32, 33, 34, 35, 36, 37, 38, 39, 40, 41, 42, 43, 44, 45, 46, 47, 48, 49, 50, 51, 52, 53, 54, 55, 56, 57, 0, 1, 2, 3, 4, 5, 6, 7, 8, 9, 10, 11, 12, 13, 14, 15, 16, 17, 18, 19, 20, 21, 22, 23, 24, 25, 26, 27, 28, 58] lq_3 rfl
  obtain ⟨hok9, hxG9, hPE9, hcost, ho9, hrel⟩ := hq
  have hrelF := fun (_ : Unit) => hrel
  clear hrel
  have hlc := lcC hcl (Nat.le_trans hcost.1 (by decide)) hk01
  have hls := lcS hsl (Nat.le_trans hcost.2 (by decide)) hk01
  refine W.eq (g2 := F0 m 628 ls [.int (iz q9)]) rfl ?_
  refine lv_istore (lv' := [(5, .int (iz q9)), (4, .int (iz (4 * k))), (3, .ref ou), (2, .ref mo), (1, .ref (o 15)), (0, .ref b)]) hx hb dL_law_628 hl (by decide) rfl (fun ls hl => ?_)
  refine lv_aload_n hx hb dL_law_630 rfl (lv_at hl 3 rfl) ?_
  refine lv_aload_n hx hb dL_law_631 rfl (lv_at hl 5 rfl) ?_
  refine lv_iload hx hb dL_law_632 (lv_at hl 1 rfl) ?_
  refine lv_iconst (v := iz 1) hx hb dL_law_634 (by decide) ?_
  refine ki_iadd hx hb dL_law_635 ?_
  refine va_sld hx hb hX hbl hbA hS (iz_in (by omega) (by omega) (by omega)) dL_law_636 ?_
  refine ki_is ea1 ?_
  have hPc := hP.sub (ws' := mW mo ma cs I Fm) [29, 30, 31, 32, 33, 34, 35, 36, 37, 38, 39, 40, 41, 42, 43, 44, 45, 46, 47, 48, 49, 50, 51, 52, 53, 54, 55, 56, 57] rfl
  have hDc := hD.sub (ws' := mW mo ma cs I Fm) [29, 30, 31, 32, 33, 34, 35, 36, 37, 38, 39, 40, 41, 42, 43, 44, 45, 46, 47, 48, 49, 50, 51, 52, 53, 54, 55, 56, 57] lq_1 rfl
  have hFc := va_free (wc := mW mo ma cs I Fm) hD hS hA [29, 30, 31, 32, 33, 34, 35, 36, 37, 38, 39, 40, 41, 42, 43, 44, 45, 46, 47, 48, 49, 50, 51, 52, 53, 54, 55, 56, 57] rfl
  have hKc := hK.sub (tys' := mT cs) [3, 4, 5, 6, 7, 8, 9, 10, 11, 12, 13, 14, 15, 16, 17, 18, 19, 20, 21, 22, 23, 24, 25, 26, 27, 28, 29, 30] rfl
  refine va_calli (va_runV (As := [.int (iz a1)]) (rest := []) ⟨hx, hb, hml, hown, hts⟩ (k_style l dC dI mo ma cs I Fm a1 H.size hI.1.hB hI.1.hst (by omega) (by omega)) (cwV 1 hts (kx_gV kq_27_law_75 kq_27_law_76 kq_27_law_77 kq_04_msmall_6 kq_27_law_78 rfl) rfl rfl rfl (by decide +kernel) ⟨Nat.le_of_ble_eq_true rfl, Nat.le_of_ble_eq_true rfl⟩) ⟨kx_blind, va_recv hKc hPc (ci := 6) (q0 := 0) rfl rfl, kx_give (ws := []) (tys := []) hPc hDc hKc hG hZ hS hFc⟩ rfl rfl hl.1 rfl (lv_room (Nat.le_of_ble_eq_true rfl)) dL_law_637 ⟨show (cells + dn9) + 0 ≤ 600384 from (Nat.le_trans hlc.2 (by decide)), show (slots + dm9) + 0 ≤ 7291369 from (Nat.le_trans hls.2 (by decide))⟩) hS (fun q _ h => hFc q h) hFc (fun r u t H1 locs ht hvm hw hB hz1 hk1 hS => ?_)
  obtain ⟨rr1, J1, G1m⟩ := u
  obtain ⟨hP1, hK1, hD1⟩ := hB
  rw [ht] at hP1
  obtain ⟨e1, hw⟩ := hw
  subst e1
  try dsimp only at hw
  obtain ⟨hP, hD⟩ := va_joinQ (wr := xU cI cB cE o9 r9 n9 z9 F9 G9 (Eo9 0 0) ++ [(ou, .inl (cL, 1, .inr (.inl fo9)))]) (w1 := mW mo ma cs J1 G1m) hP hD [29, 30, 31, 32, 33, 34, 35, 36, 37, 38, 39, 40, 41, 42, 43, 44, 45, 46, 47, 48, 49, 50, 51, 52, 53, 54, 55, 56, 57] [0, 1, 2, 3, 4, 5, 6, 7, 8, 9, 10, 11, 12, 13, 14, 15, 16, 17, 18, 19, 20, 21, 22, 23, 24, 25, 26, 27, 28, 58] rfl rfl lq_0 lq_4 hk1 hFc hP1 hD1
  generalize H1 = H at hP hS ⊢
  have hP : va_P (dC, dI) kxCl (((xU cI cB cE o9 r9 n9 z9 F9 G9 (Eo9 0 0) ++ mW mo ma cs J1 G1m) ++ [(ou, .inl (cL, 1, .inr (.inl fo9)))]) ++ eP cI N9 Eo9 Er9 En9 Ez9 EF9) H := va_P.part (cx := ((xU cI cB cE o9 r9 n9 z9 F9 G9 (Eo9 0 0) ++ mW mo ma cs J1 G1m) ++ [(ou, .inl (cL, 1, .inr (.inl fo9)))])) hP [0, 1, 2, 3, 4, 5, 6, 7, 8, 9, 10, 11, 12, 13, 14, 15, 16, 17, 18, 19, 20, 21, 22, 23, 24, 25, 26, 27, 28, 30, 31, 32, 33, 34, 35, 36, 37, 38, 39, 40, 41, 42, 43, 44, 45, 46, 47, 48, 49, 50, 51, 52, 53, 54, 55, 56, 57, 58, 29] rfl
  have hD : va_D (fun q : Nat => s.heap.size ≤ q) (((xU cI cB cE o9 r9 n9 z9 F9 G9 (Eo9 0 0) ++ mW mo ma cs J1 G1m) ++ [(ou, .inl (cL, 1, .inr (.inl fo9)))]) ++ eP cI N9 Eo9 Er9 En9 Ez9 EF9) := va_D.part (cx := ((xU cI cB cE o9 r9 n9 z9 F9 G9 (Eo9 0 0) ++ mW mo ma cs J1 G1m) ++ [(ou, .inl (cL, 1, .inr (.inl fo9)))])) hD [0, 1, 2, 3, 4, 5, 6, 7, 8, 9, 10, 11, 12, 13, 14, 15, 16, 17, 18, 19, 20, 21, 22, 23, 24, 25, 26, 27, 28, 30, 31, 32, 33, 34, 35, 36, 37, 38, 39, 40, 41, 42, 43, 44, 45, 46, 47, 48, 49, 50, 51, 52, 53, 54, 55, 56, 57, 58, 29] lq_5 rfl
  obtain ⟨hcode, hans, hR9, hI9⟩ := st_style hI hk01.2 hR (hrelF ()) hw
  refine W.eq (g2 := F0 m 640 ls [.int (iz rr1)]) rfl ?_
  have hbq := hI9.1.hB.1 0
  refine lv_istore (lv' := [(6, .int (iz rr1)), (5, .int (iz q9)), (4, .int (iz (4 * k))), (3, .ref ou), (2, .ref mo), (1, .ref (o 15)), (0, .ref b)]) hx hb dL_law_640 hl (by decide) rfl (fun ls hl => ?_)
  refine lv_goto (tgt := 689) hx hb dL_law_642 (by decide) ?_
  exact kk o9 r9 n9 z9 F9 G9 N9 Eo9 Er9 En9 Ez9 EF9 fo9 J1 G1m H _ _ _ ls (ho9 15 (by decide) (by decide)) hok9 hxG9 hPE9 hI9 hR9 hP hD hS hlc.1 hls.1 (lv_sub hl [2, 3, 4, 5, 6] rfl)
set_option maxHeartbeats 4000000 in
set_option maxRecDepth 100000 in
theorem law_print {p : Program} {l : Launch} {e : Env} {s : State} {m : MethodId} {below : List Frame} {meth : Method} {c : Code} {b : Nat} {dC : Nat → ClassId} {dI : Nat → Nat → Nat} {cI cB cE cL : ClassId} {cs : Nat → ClassId} {mo : Nat} {ma : Nat → Nat} {ou xr : Nat} {L : Nat} {xs : Nat → Int32} {k : Int} (hlf : l.stackTraces = false) (C0 : lw_At p s m meth c b L xs) (hL : L ≤ 256) (hk : 0 ≤ k ∧ 4 * k + 4 ≤ (L : Int)) (hK : va_K (dC, dI) kxCl (lT cI cB cE cL cs) s) (kk : LW p l e s m below meth c b dC dI cI cB cE cL cs mo ma ou xr k (k + 1) 689) : LW p l e s m below meth c b dC dI cI cB cE cL cs mo ma ou xr k k 645 := by
  obtain ⟨hx, hb, hr, hml, hown, hts0, hX, hbl, hlocks, hgv⟩ := id C0
  have hown : s.vm.findClass RL = some m.cls := hown
  have hA : ∀ q : Nat, s.heap.size ≤ q → (fun q : Nat => s.heap.size ≤ q) q := fun _ h => h
  have hbA : ¬ (fun q : Nat => s.heap.size ≤ q) b := Nat.not_le.mpr hbl
  have hG : kx_G s := ⟨s, _, hts0, hgv, State.WarmedH.refl s⟩
  have hZ : kx_Z (fun q : Nat => s.heap.size ≤ q) s s.heap := law_Z hts0 hgv
  have hts := kx_hts (a := #[Value.ref b]) hG
  intro o r n z F G N Eo Er En Ez EF fo I Fm H locs cells slots ls hxr hok hxG hPE hI hR hP hD hS hcl hsl hl
  subst hxr
  obtain ⟨hN1, hN2, hN3, hN4⟩ := id hxG
  have hz78 := hR.2.1
  have hk64 := hI.2.1.1
  have hk01 : 0 ≤ k ∧ k < 64 := by omega
  obtain ⟨a1, ea1, a1l, a1h⟩ := iz_of (xs (iz (4 * k + 1)).toNatClampNeg)
  obtain ⟨a2, ea2, a2l, a2h⟩ := iz_of (xs (iz (4 * k + 2)).toNatClampNeg)
  obtain ⟨a3, ea3, a3l, a3h⟩ := iz_of (xs (iz (4 * k + 3)).toNatClampNeg)
  refine lv_aload_n hx hb dL_law_645 rfl (lv_at hl 3 rfl) ?_
  refine lv_aload_n hx hb dL_law_646 rfl (lv_at hl 1 rfl) ?_
  have hPc : va_P (dC, dI) kxCl ((xU cI cB cE o r n z F G (Eo 0 0) ++ [(ou, .inl (cL, 1, .inr (.inl fo)))]) ++ eP cI N Eo Er En Ez EF) H := va_P.part (cx := xU cI cB cE o r n z F G (Eo 0 0) ++ [(ou, .inl (cL, 1, .inr (.inl fo)))]) hP [0, 1, 2, 3, 4, 5, 6, 7, 8, 9, 10, 11, 12, 13, 14, 15, 16, 17, 18, 19, 20, 21, 22, 23, 24, 25, 26, 27, 28, 58] rfl
  have hDc : va_D (fun q : Nat => s.heap.size ≤ q) ((xU cI cB cE o r n z F G (Eo 0 0) ++ [(ou, .inl (cL, 1, .inr (.inl fo)))]) ++ eP cI N Eo Er En Ez EF) := va_D.part (cx := xU cI cB cE o r n z F G (Eo 0 0) ++ [(ou, .inl (cL, 1, .inr (.inl fo)))]) hD [0, 1, 2, 3, 4, 5, 6, 7, 8, 9, 10, 11, 12, 13, 14, 15, 16, 17, 18, 19, 20, 21, 22, 23, 24, 25, 26, 27, 28, 58] lq_0 rfl
  have hFc := va_freeP (cx := xU cI cB cE o r n z F G (Eo 0 0) ++ [(ou, .inl (cL, 1, .inr (.inl fo)))]) hD hS hA [0, 1, 2, 3, 4, 5, 6, 7, 8, 9, 10, 11, 12, 13, 14, 15, 16, 17, 18, 19, 20, 21, 22, 23, 24, 25, 26, 27, 28, 58] rfl
  have hKc := hK.sub (tys' := [(cI, .int), (cB, .byte), (cE, .object RX0), (cL, .long)]) [0, 1, 2, 31] rfl
  refine xk_call (vx_runSW (As := [.ref (o 15), .ref ou]) (rest := []) ⟨hx, hb, hml, hown, hts⟩ (h_print l hlf dC dI cI cB cE cL o r n z F G N Eo Er En Ez EF ou fo  H.size hok hxG hPE ) (vx_cwSW 2 hts (kx_gS kq_27_law_79 kq_27_law_80 kq_27_law_2 kq_25_xhelp_63 rfl) rfl rfl rfl (by decide +kernel) ⟨Nat.le_of_ble_eq_true rfl, Nat.le_of_ble_eq_true rfl⟩) ⟨kx_blind, kx_give (ws := []) (tys := []) hPc hDc hKc hG hZ hS hFc⟩ rfl rfl hl.1 rfl (lv_room (Nat.le_of_ble_eq_true rfl)) dL_law_647 ⟨show cells + 1200 ≤ 600384 from (by omega), show slots + 600000 ≤ 7291369 from (by omega)⟩) hS (fun q _ h => hFc q h) hFc (fun u dn9 dm9 t H1 locs ht hvm hq hB hk1 hS => ?_)
  obtain ⟨q9, fo9, o9, r9, n9, z9, F9, G9, N9, Eo9, Er9, En9, Ez9, EF9⟩ := u
  obtain ⟨hP1, hK1, hD1⟩ := hB
  rw [ht] at hP1
  try dsimp only at hq
  obtain ⟨hP, hD⟩ := va_joinP (wr := mW mo ma cs I Fm) (rx := xU cI cB cE o9 r9 n9 z9 F9 G9 (Eo9 0 0) ++ [(ou, .inl (cL, 1, .inr (.inl fo9)))]) (pl1 := eP cI N9 Eo9 Er9 En9 Ez9 EF9) hP hD [0, 1, 2, 3, 4, 5, 6, 7, 8, 9, 10, 11, 12, 13, 14, 15, 16, 17, 18, 19, 20, 21, 22, 23, 24, 25, 26, 27, 28, 58] [29, 30, 31, 32, 33, 34, 35, 36, 37, 38, 39, 40, 41, 42, 43, 44, 45, 46, 47, 48, 49, 50, 51, 52, 53, 54, 55, 56, 57] rfl rfl lq_1 lq_2 hk1 hFc hP1 hD1
  generalize H1 = H at hP hS ⊢
  have hP : va_P (dC, dI) kxCl (((xU cI cB cE o9 r9 n9 z9 F9 G9 (Eo9 0 0) ++ mW mo ma cs I Fm) ++ [(ou, .inl (cL, 1, .inr (.inl fo9)))]) ++ eP cI N9 Eo9 Er9 En9 Ez9 EF9) H := va_P.part (cx := ((xU cI cB cE o9 r9 n9 z9 F9 G9 (Eo9 0 0) ++ mW mo ma cs I Fm) ++ [(ou, .inl (cL, 1, .inr (.inl fo9)))])) hP [29, 30, 31, 32, 33, 34, 35, 36, 37, 38, 39, 40, 41, 42, 43, 44, 45, 46, 47, 48, 49, 50, 51, 52, 53, 54, 55, 56, 57, 0, 1, 2, 3, 4, 5, 6, 7, 8, 9, 10, 11, 12, 13, 14, 15, 16, 17, 18, 19, 20, 21, 22, 23, 24, 25, 26, 27, 28, 58] rfl
  have hD : va_D (fun q : Nat => s.heap.size ≤ q) (((xU cI cB cE o9 r9 n9 z9 F9 G9 (Eo9 0 0) ++ mW mo ma cs I Fm) ++ [(ou, .inl (cL, 1, .inr (.inl fo9)))]) ++ eP cI N9 Eo9 Er9 En9 Ez9 EF9) := va_D.part (cx := ((xU cI cB cE o9 r9 n9 z9 F9 G9 (Eo9 0 0) ++ mW mo ma cs I Fm) ++ [(ou, .inl (cL, 1, .inr (.inl fo9)))])) hD [29, 30, 31, 32, 33, 34, 35, 36, 37, 38, 39, 40, 41, 42, 43, 44, 45, 46, 47, 48, 49, 50, 51, 52, 53, 54, 55, 56, 57, 0, 1, 2, 3, 4, 5, 6, 7, 8, 9, 10, 11, 12, 13, 14, 15, 16, 17, 18, 19, 20, 21, 22, 23, 24, 25, 26, 27, 28, 58] lq_3 rfl
  obtain ⟨hok9, hxG9, hPE9, hcost, ho9, hrel⟩ := hq
  have hrelF := fun (_ : Unit) => hrel
  clear hrel
  have hlc := lcC hcl (Nat.le_trans hcost.1 (by decide)) hk01
  have hls := lcS hsl (Nat.le_trans hcost.2 (by decide)) hk01
  refine W.eq (g2 := F0 m 650 ls [.int (iz q9)]) rfl ?_
  refine lv_istore (lv' := [(5, .int (iz q9)), (4, .int (iz (4 * k))), (3, .ref ou), (2, .ref mo), (1, .ref (o 15)), (0, .ref b)]) hx hb dL_law_650 hl (by decide) rfl (fun ls hl => ?_)
  refine lv_aload_n hx hb dL_law_652 rfl (lv_at hl 3 rfl) ?_
  have hPc := hP.sub (ws' := mW mo ma cs I Fm) [29, 30, 31, 32, 33, 34, 35, 36, 37, 38, 39, 40, 41, 42, 43, 44, 45, 46, 47, 48, 49, 50, 51, 52, 53, 54, 55, 56, 57] rfl
  have hDc := hD.sub (ws' := mW mo ma cs I Fm) [29, 30, 31, 32, 33, 34, 35, 36, 37, 38, 39, 40, 41, 42, 43, 44, 45, 46, 47, 48, 49, 50, 51, 52, 53, 54, 55, 56, 57] lq_1 rfl
  have hFc := va_free (wc := mW mo ma cs I Fm) hD hS hA [29, 30, 31, 32, 33, 34, 35, 36, 37, 38, 39, 40, 41, 42, 43, 44, 45, 46, 47, 48, 49, 50, 51, 52, 53, 54, 55, 56, 57] rfl
  have hKc := hK.sub (tys' := mT cs) [3, 4, 5, 6, 7, 8, 9, 10, 11, 12, 13, 14, 15, 16, 17, 18, 19, 20, 21, 22, 23, 24, 25, 26, 27, 28, 29, 30] rfl
  refine va_calli (va_runV (As := []) (rest := []) ⟨hx, hb, hml, hown, hts⟩ (k_print l dC dI mo ma cs I Fm  H.size hI.1) (cwV 0 hts (kx_gV kq_27_law_81 kq_27_law_82 kq_27_law_83 kq_04_msmall_6 kq_27_law_84 rfl) rfl rfl rfl (by decide +kernel) ⟨Nat.le_of_ble_eq_true rfl, Nat.le_of_ble_eq_true rfl⟩) ⟨kx_blind, va_recv hKc hPc (ci := 6) (q0 := 0) rfl rfl, kx_give (ws := []) (tys := []) hPc hDc hKc hG hZ hS hFc⟩ rfl rfl hl.1 rfl (lv_room (Nat.le_of_ble_eq_true rfl)) dL_law_653 ⟨show (cells + dn9) + 0 ≤ 600384 from (Nat.le_trans hlc.2 (by decide)), show (slots + dm9) + 0 ≤ 7291369 from (Nat.le_trans hls.2 (by decide))⟩) hS (fun q _ h => hFc q h) hFc (fun r u t H1 locs ht hvm hw hB hz1 hk1 hS => ?_)
  obtain ⟨rr1, J1, G1m⟩ := u
  obtain ⟨hP1, hK1, hD1⟩ := hB
  rw [ht] at hP1
  obtain ⟨e1, hw⟩ := hw
  subst e1
  try dsimp only at hw
  obtain ⟨hP, hD⟩ := va_joinQ (wr := xU cI cB cE o9 r9 n9 z9 F9 G9 (Eo9 0 0) ++ [(ou, .inl (cL, 1, .inr (.inl fo9)))]) (w1 := mW mo ma cs J1 G1m) hP hD [29, 30, 31, 32, 33, 34, 35, 36, 37, 38, 39, 40, 41, 42, 43, 44, 45, 46, 47, 48, 49, 50, 51, 52, 53, 54, 55, 56, 57] [0, 1, 2, 3, 4, 5, 6, 7, 8, 9, 10, 11, 12, 13, 14, 15, 16, 17, 18, 19, 20, 21, 22, 23, 24, 25, 26, 27, 28, 58] rfl rfl lq_0 lq_4 hk1 hFc hP1 hD1
  generalize H1 = H at hP hS ⊢
  have hP : va_P (dC, dI) kxCl (((xU cI cB cE o9 r9 n9 z9 F9 G9 (Eo9 0 0) ++ mW mo ma cs J1 G1m) ++ [(ou, .inl (cL, 1, .inr (.inl fo9)))]) ++ eP cI N9 Eo9 Er9 En9 Ez9 EF9) H := va_P.part (cx := ((xU cI cB cE o9 r9 n9 z9 F9 G9 (Eo9 0 0) ++ mW mo ma cs J1 G1m) ++ [(ou, .inl (cL, 1, .inr (.inl fo9)))])) hP [0, 1, 2, 3, 4, 5, 6, 7, 8, 9, 10, 11, 12, 13, 14, 15, 16, 17, 18, 19, 20, 21, 22, 23, 24, 25, 26, 27, 28, 30, 31, 32, 33, 34, 35, 36, 37, 38, 39, 40, 41, 42, 43, 44, 45, 46, 47, 48, 49, 50, 51, 52, 53, 54, 55, 56, 57, 58, 29] rfl
  have hD : va_D (fun q : Nat => s.heap.size ≤ q) (((xU cI cB cE o9 r9 n9 z9 F9 G9 (Eo9 0 0) ++ mW mo ma cs J1 G1m) ++ [(ou, .inl (cL, 1, .inr (.inl fo9)))]) ++ eP cI N9 Eo9 Er9 En9 Ez9 EF9) := va_D.part (cx := ((xU cI cB cE o9 r9 n9 z9 F9 G9 (Eo9 0 0) ++ mW mo ma cs J1 G1m) ++ [(ou, .inl (cL, 1, .inr (.inl fo9)))])) hD [0, 1, 2, 3, 4, 5, 6, 7, 8, 9, 10, 11, 12, 13, 14, 15, 16, 17, 18, 19, 20, 21, 22, 23, 24, 25, 26, 27, 28, 30, 31, 32, 33, 34, 35, 36, 37, 38, 39, 40, 41, 42, 43, 44, 45, 46, 47, 48, 49, 50, 51, 52, 53, 54, 55, 56, 57, 58, 29] lq_5 rfl
  have hfr9 : (∃ S T S2 T2 : List Nat, xFr S T z F z9 F9 ∧ eFr S2 T2 En Ez EF En9 Ez9 EF9 ∧ (3 ∉ S ∧ 12 ∉ S ∧ 13 ∉ S ∧ 14 ∉ S) ∧ (0 ∉ S2 ∧ 4 ∉ S2 ∧ 7 ∉ S2 ∧ 9 ∉ S2) ∧ 4 ∉ T2) := by rcases (hrelF ()).2 with ⟨-, h1, h2, -⟩ | ⟨⟨h1, h2⟩, -⟩; exact ⟨_, _, _, _, h1, h2, by decide, by decide, by decide⟩; exact ⟨_, _, _, _, h1, h2, by decide, by decide, by decide⟩
  obtain ⟨S9, T9, S29, T29, hf1, hf2, hf3, hf4, hf5⟩ := hfr9
  obtain ⟨hR9, hI9⟩ := st_ask hI hR hf1 hf2 hf3 hf4 hf5 hw
  refine W.eq (g2 := F0 m 656 ls [.int (iz rr1)]) rfl ?_
  refine lv_istore (lv' := [(6, .int (iz rr1)), (5, .int (iz q9)), (4, .int (iz (4 * k))), (3, .ref ou), (2, .ref mo), (1, .ref (o 15)), (0, .ref b)]) hx hb dL_law_656 hl (by decide) rfl (fun ls hl => ?_)
  refine lv_goto (tgt := 689) hx hb dL_law_658 (by decide) ?_
  exact kk o9 r9 n9 z9 F9 G9 N9 Eo9 Er9 En9 Ez9 EF9 fo9 J1 G1m H _ _ _ ls (ho9 15 (by decide) (by decide)) hok9 hxG9 hPE9 hI9 hR9 hP hD hS hlc.1 hls.1 (lv_sub hl [2, 3, 4, 5, 6] rfl)
set_option maxHeartbeats 4000000 in
set_option maxRecDepth 100000 in
theorem law_at {p : Program} {l : Launch} {e : Env} {s : State} {m : MethodId} {below : List Frame} {meth : Method} {c : Code} {b : Nat} {dC : Nat → ClassId} {dI : Nat → Nat → Nat} {cI cB cE cL : ClassId} {cs : Nat → ClassId} {mo : Nat} {ma : Nat → Nat} {ou xr : Nat} {L : Nat} {xs : Nat → Int32} {k : Int} (hlf : l.stackTraces = false) (C0 : lw_At p s m meth c b L xs) (hL : L ≤ 256) (hk : 0 ≤ k ∧ 4 * k + 4 ≤ (L : Int)) (hK : va_K (dC, dI) kxCl (lT cI cB cE cL cs) s) (kk : LW p l e s m below meth c b dC dI cI cB cE cL cs mo ma ou xr k (k + 1) 689) : LW p l e s m below meth c b dC dI cI cB cE cL cs mo ma ou xr k k 661 := by
  obtain ⟨hx, hb, hr, hml, hown, hts0, hX, hbl, hlocks, hgv⟩ := id C0
  have hown : s.vm.findClass RL = some m.cls := hown
  have hA : ∀ q : Nat, s.heap.size ≤ q → (fun q : Nat => s.heap.size ≤ q) q := fun _ h => h
  have hbA : ¬ (fun q : Nat => s.heap.size ≤ q) b := Nat.not_le.mpr hbl
  have hG : kx_G s := ⟨s, _, hts0, hgv, State.WarmedH.refl s⟩
  have hZ : kx_Z (fun q : Nat => s.heap.size ≤ q) s s.heap := law_Z hts0 hgv
  have hts := kx_hts (a := #[Value.ref b]) hG
  intro o r n z F G N Eo Er En Ez EF fo I Fm H locs cells slots ls hxr hok hxG hPE hI hR hP hD hS hcl hsl hl
  subst hxr
  obtain ⟨hN1, hN2, hN3, hN4⟩ := id hxG
  have hz78 := hR.2.1
  have hk64 := hI.2.1.1
  have hk01 : 0 ≤ k ∧ k < 64 := by omega
  obtain ⟨a1, ea1, a1l, a1h⟩ := iz_of (xs (iz (4 * k + 1)).toNatClampNeg)
  obtain ⟨a2, ea2, a2l, a2h⟩ := iz_of (xs (iz (4 * k + 2)).toNatClampNeg)
  obtain ⟨a3, ea3, a3l, a3h⟩ := iz_of (xs (iz (4 * k + 3)).toNatClampNeg)
  refine lv_aload_n hx hb dL_law_661 rfl (lv_at hl 3 rfl) ?_
  refine lv_aload_n hx hb dL_law_662 rfl (lv_at hl 4 rfl) ?_
  refine lv_iload hx hb dL_law_663 (lv_at hl 0 rfl) ?_
  refine lv_iconst (v := iz 1) hx hb dL_law_665 (by decide) ?_
  refine ki_iadd hx hb dL_law_666 ?_
  refine va_sld hx hb hX hbl hbA hS (iz_in (by omega) (by omega) (by omega)) dL_law_667 ?_
  refine ki_is ea1 ?_
  refine lv_aload_n hx hb dL_law_668 rfl (lv_at hl 1 rfl) ?_
  have hPc : va_P (dC, dI) kxCl ((xU cI cB cE o r n z F G (Eo 0 0) ++ [(ou, .inl (cL, 1, .inr (.inl fo)))]) ++ eP cI N Eo Er En Ez EF) H := va_P.part (cx := xU cI cB cE o r n z F G (Eo 0 0) ++ [(ou, .inl (cL, 1, .inr (.inl fo)))]) hP [0, 1, 2, 3, 4, 5, 6, 7, 8, 9, 10, 11, 12, 13, 14, 15, 16, 17, 18, 19, 20, 21, 22, 23, 24, 25, 26, 27, 28, 58] rfl
  have hDc : va_D (fun q : Nat => s.heap.size ≤ q) ((xU cI cB cE o r n z F G (Eo 0 0) ++ [(ou, .inl (cL, 1, .inr (.inl fo)))]) ++ eP cI N Eo Er En Ez EF) := va_D.part (cx := xU cI cB cE o r n z F G (Eo 0 0) ++ [(ou, .inl (cL, 1, .inr (.inl fo)))]) hD [0, 1, 2, 3, 4, 5, 6, 7, 8, 9, 10, 11, 12, 13, 14, 15, 16, 17, 18, 19, 20, 21, 22, 23, 24, 25, 26, 27, 28, 58] lq_0 rfl
  have hFc := va_freeP (cx := xU cI cB cE o r n z F G (Eo 0 0) ++ [(ou, .inl (cL, 1, .inr (.inl fo)))]) hD hS hA [0, 1, 2, 3, 4, 5, 6, 7, 8, 9, 10, 11, 12, 13, 14, 15, 16, 17, 18, 19, 20, 21, 22, 23, 24, 25, 26, 27, 28, 58] rfl
  have hKc := hK.sub (tys' := [(cI, .int), (cB, .byte), (cE, .object RX0), (cL, .long)]) [0, 1, 2, 31] rfl
  refine xk_call (vx_runSW (As := [.ref (o 15), .int (iz a1), .ref ou]) (rest := []) ⟨hx, hb, hml, hown, hts⟩ (h_at l hlf dC dI cI cB cE cL o r n z F G N Eo Er En Ez EF ou fo a1 H.size hok hxG hPE (by omega) (by omega)) (vx_cwSW 3 hts (kx_gS kq_27_law_85 kq_27_law_86 kq_27_law_2 kq_25_xhelp_68 rfl) rfl rfl rfl (by decide +kernel) ⟨Nat.le_of_ble_eq_true rfl, Nat.le_of_ble_eq_true rfl⟩) ⟨kx_blind, kx_give (ws := []) (tys := []) hPc hDc hKc hG hZ hS hFc⟩ rfl rfl hl.1 rfl (lv_room (Nat.le_of_ble_eq_true rfl)) dL_law_669 ⟨show cells + 100 ≤ 600384 from (by omega), show slots + 42000 ≤ 7291369 from (by omega)⟩) hS (fun q _ h => hFc q h) hFc (fun u dn9 dm9 t H1 locs ht hvm hq hB hk1 hS => ?_)
  obtain ⟨q9, fo9, o9, r9, n9, z9, F9, G9, N9, Eo9, Er9, En9, Ez9, EF9⟩ := u
  obtain ⟨hP1, hK1, hD1⟩ := hB
  rw [ht] at hP1
  try dsimp only at hq
  obtain ⟨hP, hD⟩ := va_joinP (wr := mW mo ma cs I Fm) (rx := xU cI cB cE o9 r9 n9 z9 F9 G9 (Eo9 0 0) ++ [(ou, .inl (cL, 1, .inr (.inl fo9)))]) (pl1 := eP cI N9 Eo9 Er9 En9 Ez9 EF9) hP hD [0, 1, 2, 3, 4, 5, 6, 7, 8, 9, 10, 11, 12, 13, 14, 15, 16, 17, 18, 19, 20, 21, 22, 23, 24, 25, 26, 27, 28, 58] [29, 30, 31, 32, 33, 34, 35, 36, 37, 38, 39, 40, 41, 42, 43, 44, 45, 46, 47, 48, 49, 50, 51, 52, 53, 54, 55, 56, 57] rfl rfl lq_1 lq_2 hk1 hFc hP1 hD1
  generalize H1 = H at hP hS ⊢
  have hP : va_P (dC, dI) kxCl (((xU cI cB cE o9 r9 n9 z9 F9 G9 (Eo9 0 0) ++ mW mo ma cs I Fm) ++ [(ou, .inl (cL, 1, .inr (.inl fo9)))]) ++ eP cI N9 Eo9 Er9 En9 Ez9 EF9) H := va_P.part (cx := ((xU cI cB cE o9 r9 n9 z9 F9 G9 (Eo9 0 0) ++ mW mo ma cs I Fm) ++ [(ou, .inl (cL, 1, .inr (.inl fo9)))])) hP [29, 30, 31, 32, 33, 34, 35, 36, 37, 38, 39, 40, 41, 42, 43, 44, 45, 46, 47, 48, 49, 50, 51, 52, 53, 54, 55, 56, 57, 0, 1, 2, 3, 4, 5, 6, 7, 8, 9, 10, 11, 12, 13, 14, 15, 16, 17, 18, 19, 20, 21, 22, 23, 24, 25, 26, 27, 28, 58] rfl
  have hD : va_D (fun q : Nat => s.heap.size ≤ q) (((xU cI cB cE o9 r9 n9 z9 F9 G9 (Eo9 0 0) ++ mW mo ma cs I Fm) ++ [(ou, .inl (cL, 1, .inr (.inl fo9)))]) ++ eP cI N9 Eo9 Er9 En9 Ez9 EF9) := va_D.part (cx := ((xU cI cB cE o9 r9 n9 z9 F9 G9 (Eo9 0 0) ++ mW mo ma cs I Fm) ++ [(ou, .inl (cL, 1, .inr (.inl fo9)))])) hD [29, 30, 31, 32, 33, 34, 35, 36, 37, 38, 39, 40, 41, 42, 43, 44, 45, 46, 47, 48, 49, 50, 51, 52, 53, 54, 55, 56, 57, 0, 1, 2, 3, 4, 5, 6, 7, 8, 9, 10, 11, 12, 13, 14, 15, 16, 17, 18, 19, 20, 21, 22, 23, 24, 25, 26, 27, 28, 58] lq_3 rfl
  obtain ⟨hok9, hxG9, hPE9, hcost, ho9, hrel⟩ := hq
  have hrelF := fun (_ : Unit) => hrel
  clear hrel
  have hlc := lcC hcl (Nat.le_trans hcost.1 (by decide)) hk01
  have hls := lcS hsl (Nat.le_trans hcost.2 (by decide)) hk01
  refine W.eq (g2 := F0 m 672 ls [.int (iz q9)]) rfl ?_
  refine lv_istore (lv' := [(5, .int (iz q9)), (4, .int (iz (4 * k))), (3, .ref ou), (2, .ref mo), (1, .ref (o 15)), (0, .ref b)]) hx hb dL_law_672 hl (by decide) rfl (fun ls hl => ?_)
  refine lv_aload_n hx hb dL_law_674 rfl (lv_at hl 3 rfl) ?_
  refine lv_aload_n hx hb dL_law_675 rfl (lv_at hl 5 rfl) ?_
  refine lv_iload hx hb dL_law_676 (lv_at hl 1 rfl) ?_
  refine lv_iconst (v := iz 1) hx hb dL_law_678 (by decide) ?_
  refine ki_iadd hx hb dL_law_679 ?_
  refine va_sld hx hb hX hbl hbA hS (iz_in (by omega) (by omega) (by omega)) dL_law_680 ?_
  refine ki_is ea1 ?_
  have hPc := hP.sub (ws' := mW mo ma cs I Fm) [29, 30, 31, 32, 33, 34, 35, 36, 37, 38, 39, 40, 41, 42, 43, 44, 45, 46, 47, 48, 49, 50, 51, 52, 53, 54, 55, 56, 57] rfl
  have hDc := hD.sub (ws' := mW mo ma cs I Fm) [29, 30, 31, 32, 33, 34, 35, 36, 37, 38, 39, 40, 41, 42, 43, 44, 45, 46, 47, 48, 49, 50, 51, 52, 53, 54, 55, 56, 57] lq_1 rfl
  have hFc := va_free (wc := mW mo ma cs I Fm) hD hS hA [29, 30, 31, 32, 33, 34, 35, 36, 37, 38, 39, 40, 41, 42, 43, 44, 45, 46, 47, 48, 49, 50, 51, 52, 53, 54, 55, 56, 57] rfl
  have hKc := hK.sub (tys' := mT cs) [3, 4, 5, 6, 7, 8, 9, 10, 11, 12, 13, 14, 15, 16, 17, 18, 19, 20, 21, 22, 23, 24, 25, 26, 27, 28, 29, 30] rfl
  refine va_calli (va_runV (As := [.int (iz a1)]) (rest := []) ⟨hx, hb, hml, hown, hts⟩ (k_at l dC dI mo ma cs I Fm a1 H.size hI.1 (by omega) (by omega)) (cwV 1 hts (kx_gV kq_27_law_87 kq_27_law_88 kq_27_law_89 kq_04_msmall_6 kq_27_law_90 rfl) rfl rfl rfl (by decide +kernel) ⟨Nat.le_of_ble_eq_true rfl, Nat.le_of_ble_eq_true rfl⟩) ⟨kx_blind, va_recv hKc hPc (ci := 6) (q0 := 0) rfl rfl, kx_give (ws := []) (tys := []) hPc hDc hKc hG hZ hS hFc⟩ rfl rfl hl.1 rfl (lv_room (Nat.le_of_ble_eq_true rfl)) dL_law_681 ⟨show (cells + dn9) + 0 ≤ 600384 from (Nat.le_trans hlc.2 (by decide)), show (slots + dm9) + 0 ≤ 7291369 from (Nat.le_trans hls.2 (by decide))⟩) hS (fun q _ h => hFc q h) hFc (fun r u t H1 locs ht hvm hw hB hz1 hk1 hS => ?_)
  obtain ⟨rr1, J1, G1m⟩ := u
  obtain ⟨hP1, hK1, hD1⟩ := hB
  rw [ht] at hP1
  obtain ⟨e1, hw⟩ := hw
  subst e1
  try dsimp only at hw
  obtain ⟨hP, hD⟩ := va_joinQ (wr := xU cI cB cE o9 r9 n9 z9 F9 G9 (Eo9 0 0) ++ [(ou, .inl (cL, 1, .inr (.inl fo9)))]) (w1 := mW mo ma cs J1 G1m) hP hD [29, 30, 31, 32, 33, 34, 35, 36, 37, 38, 39, 40, 41, 42, 43, 44, 45, 46, 47, 48, 49, 50, 51, 52, 53, 54, 55, 56, 57] [0, 1, 2, 3, 4, 5, 6, 7, 8, 9, 10, 11, 12, 13, 14, 15, 16, 17, 18, 19, 20, 21, 22, 23, 24, 25, 26, 27, 28, 58] rfl rfl lq_0 lq_4 hk1 hFc hP1 hD1
  generalize H1 = H at hP hS ⊢
  have hP : va_P (dC, dI) kxCl (((xU cI cB cE o9 r9 n9 z9 F9 G9 (Eo9 0 0) ++ mW mo ma cs J1 G1m) ++ [(ou, .inl (cL, 1, .inr (.inl fo9)))]) ++ eP cI N9 Eo9 Er9 En9 Ez9 EF9) H := va_P.part (cx := ((xU cI cB cE o9 r9 n9 z9 F9 G9 (Eo9 0 0) ++ mW mo ma cs J1 G1m) ++ [(ou, .inl (cL, 1, .inr (.inl fo9)))])) hP [0, 1, 2, 3, 4, 5, 6, 7, 8, 9, 10, 11, 12, 13, 14, 15, 16, 17, 18, 19, 20, 21, 22, 23, 24, 25, 26, 27, 28, 30, 31, 32, 33, 34, 35, 36, 37, 38, 39, 40, 41, 42, 43, 44, 45, 46, 47, 48, 49, 50, 51, 52, 53, 54, 55, 56, 57, 58, 29] rfl
  have hD : va_D (fun q : Nat => s.heap.size ≤ q) (((xU cI cB cE o9 r9 n9 z9 F9 G9 (Eo9 0 0) ++ mW mo ma cs J1 G1m) ++ [(ou, .inl (cL, 1, .inr (.inl fo9)))]) ++ eP cI N9 Eo9 Er9 En9 Ez9 EF9) := va_D.part (cx := ((xU cI cB cE o9 r9 n9 z9 F9 G9 (Eo9 0 0) ++ mW mo ma cs J1 G1m) ++ [(ou, .inl (cL, 1, .inr (.inl fo9)))])) hD [0, 1, 2, 3, 4, 5, 6, 7, 8, 9, 10, 11, 12, 13, 14, 15, 16, 17, 18, 19, 20, 21, 22, 23, 24, 25, 26, 27, 28, 30, 31, 32, 33, 34, 35, 36, 37, 38, 39, 40, 41, 42, 43, 44, 45, 46, 47, 48, 49, 50, 51, 52, 53, 54, 55, 56, 57, 58, 29] lq_5 rfl
  have hfr9 : (∃ S T S2 T2 : List Nat, xFr S T z F z9 F9 ∧ eFr S2 T2 En Ez EF En9 Ez9 EF9 ∧ (3 ∉ S ∧ 12 ∉ S ∧ 13 ∉ S ∧ 14 ∉ S) ∧ (0 ∉ S2 ∧ 4 ∉ S2 ∧ 7 ∉ S2 ∧ 9 ∉ S2) ∧ 4 ∉ T2) := by rcases (hrelF ()).2 with ⟨-, h1, h2, -⟩ | ⟨⟨h1, h2⟩, -⟩; exact ⟨_, _, _, _, h1, h2, by decide, by decide, by decide⟩; exact ⟨_, _, _, _, h1, h2, by decide, by decide, by decide⟩
  obtain ⟨S9, T9, S29, T29, hf1, hf2, hf3, hf4, hf5⟩ := hfr9
  obtain ⟨hR9, hI9⟩ := st_ask hI hR hf1 hf2 hf3 hf4 hf5 hw
  refine W.eq (g2 := F0 m 684 ls [.int (iz rr1)]) rfl ?_
  refine lv_istore (lv' := [(6, .int (iz rr1)), (5, .int (iz q9)), (4, .int (iz (4 * k))), (3, .ref ou), (2, .ref mo), (1, .ref (o 15)), (0, .ref b)]) hx hb dL_law_684 hl (by decide) rfl (fun ls hl => ?_)
  refine lv_goto (tgt := 689) hx hb dL_law_686 (by decide) ?_
  exact kk o9 r9 n9 z9 F9 G9 N9 Eo9 Er9 En9 Ez9 EF9 fo9 J1 G1m H _ _ _ ls (ho9 15 (by decide) (by decide)) hok9 hxG9 hPE9 hI9 hR9 hP hD hS hlc.1 hls.1 (lv_sub hl [2, 3, 4, 5, 6] rfl)
