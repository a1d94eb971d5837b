/-! numbers as Ints: iz z is the Int32 of z; a walk's ints stand as iz of an Int, arrays of ints as iA of a function on Int, so that omega sees them -/
def iz (z : Int) : Int32 := Int32.ofInt z
theorem iz_toInt {z : Int} (h1 : -2147483648 ≤ z) (h2 : z < 2147483648) : (iz z).toInt = z := Int32.toInt_ofInt_of_le (by omega) (by omega)
theorem iz_of (x : Int32) : ∃ z : Int, x = iz z ∧ -2147483648 ≤ z ∧ z < 2147483648 := ⟨x.toInt, (Int32.ofInt_toInt x).symm, by have := x.le_toInt; omega, by have := x.toInt_lt; omega⟩
theorem iz_self (x : Int32) : iz x.toInt = x := Int32.ofInt_toInt x
theorem iz_add (a b : Int) : iz a + iz b = iz (a + b) := (Int32.ofInt_add a b).symm
theorem iz_sub (a b : Int) : iz a - iz b = iz (a - b) := (Int32.ofInt_sub a b).symm
theorem iz_mul (a b : Int) : iz a * iz b = iz (a * b) := (Int32.ofInt_mul a b).symm
theorem iz_neg (a : Int) : -iz a = iz (-a) := (Int32.ofInt_neg a).symm
theorem iz_lt {a b : Int} (a1 : -2147483648 ≤ a) (a2 : a < 2147483648) (b1 : -2147483648 ≤ b) (b2 : b < 2147483648) : iz a < iz b ↔ a < b := by
  rw [Int32.lt_iff_toInt_lt, iz_toInt a1 a2, iz_toInt b1 b2]
theorem iz_le {a b : Int} (a1 : -2147483648 ≤ a) (a2 : a < 2147483648) (b1 : -2147483648 ≤ b) (b2 : b < 2147483648) : iz a ≤ iz b ↔ a ≤ b := by
  rw [Int32.le_iff_toInt_le, iz_toInt a1 a2, iz_toInt b1 b2]
theorem iz_eq {a b : Int} (a1 : -2147483648 ≤ a) (a2 : a < 2147483648) (b1 : -2147483648 ≤ b) (b2 : b < 2147483648) : iz a = iz b ↔ a = b := by
  rw [← Int32.toInt_inj, iz_toInt a1 a2, iz_toInt b1 b2]
theorem iz_0 : (0 : Int32) = iz 0 := by decide
theorem iz_clamp {z : Int} (h1 : -2147483648 ≤ z) (h2 : z < 2147483648) : (iz z).toNatClampNeg = z.toNat := Int32.toNatClampNeg_ofInt_of_le (by omega) (by omega)
theorem iz_div {a b : Int} (a1 : 0 ≤ a) (a2 : a < 2147483648) (b1 : 0 < b) (b2 : b < 2147483648) : iz a / iz b = iz (a / b) := by
  refine Int32.toInt_inj.mp ?_
  have e1 : (iz b).toInt = b := iz_toInt (by omega) b2
  have e2 : (iz a).toInt = a := iz_toInt (by omega) a2
  have hq0 : 0 ≤ a / b := Int.ediv_nonneg a1 (by omega)
  have hq1 : a / b ≤ a := Int.ediv_le_self b a1
  have hne : iz b ≠ -1 := by
    intro h
    rw [h] at e1
    have h1 : (-1 : Int32).toInt = -1 := by decide
    omega
  rw [Int32.toInt_div_of_ne_right _ _ hne, e1, e2, iz_toInt (by omega) (by omega), Int.tdiv_eq_ediv_of_nonneg a1]
theorem iz_rem {a b : Int} (a1 : 0 ≤ a) (a2 : a < 2147483648) (b1 : 0 < b) (b2 : b < 2147483648) : iz a - iz a / iz b * iz b = iz (a % b) := by
  rw [iz_div a1 a2 b1 b2, iz_mul, iz_sub]
  congr 1
  have := Int.emod_add_mul_ediv a b
  rw [Int.mul_comm] at this
  omega
def iA (F : Int → Int) : Nat → Int32 := fun j => iz (F (j : Int))
def upI (F : Int → Int) (i v : Int) : Int → Int := fun j => if j = i then v else F j
theorem upI_self (F : Int → Int) (i v : Int) : upI F i v i = v := if_pos rfl
theorem upI_ne (F : Int → Int) {i j : Int} (v : Int) (h : j ≠ i) : upI F i v j = F j := if_neg h
theorem iA_at (F : Int → Int) {i : Int} (h0 : 0 ≤ i) (h1 : i < 2147483648) : iA F (iz i).toNatClampNeg = iz (F i) := by
  unfold iA
  rw [iz_clamp (by omega) h1, Int.toNat_of_nonneg h0]
theorem iA_up (F : Int → Int) {i : Int} (v : Int) (h0 : 0 ≤ i) (h1 : i < 2147483648) : upd (iA F) (iz i).toNatClampNeg (iz v) = iA (upI F i v) := by
  funext j
  unfold upd iA upI
  rw [iz_clamp (by omega) h1]
  by_cases h : j = i.toNat
  · rw [if_pos h, if_pos (by omega)]
  · rw [if_neg h, if_neg (by omega)]
theorem iA_of (f : Nat → Int32) : ∃ F : Int → Int, f = iA F ∧ ∀ j, -2147483648 ≤ F j ∧ F j < 2147483648 := by
  refine ⟨fun j => (f j.toNat).toInt, ?_, fun j => ?_⟩
  · funext j
    show f j = iz (f ((j : Int).toNat)).toInt
    rw [iz_self, Int.toNat_natCast]
  · show -2147483648 ≤ (f j.toNat).toInt ∧ (f j.toNat).toInt < 2147483648
    have h1 := (f j.toNat).le_toInt
    have h2 := (f j.toNat).toInt_lt
    omega
theorem iz_in {i : Int} {n : Nat} (h0 : 0 ≤ i) (h1 : i < n) (hn : n ≤ 2147483647) : vp_in (iz i) n := by
  unfold vp_in
  rw [iz_clamp (by omega) (by omega), iz_0, iz_lt (by omega) (by omega) (by omega) (by omega)]
  omega
section KI
variable {p : Program} {l : Launch} {e : Env} {R : Room} {s : State} {m : MethodId} {args : Array Value} {below : List Frame} {meth : Method} {c : Code} {H : Heap} {locs : List Loc} {cells slots : Nat} {Q : State → Prop} {cc : ByteArray} {pc : Nat} {ls : Array Slot} {rest : List Value}
theorem ki_iadd (hexec : p.tables.exec = Jvm.exec) (hb : c.code = cc) {a b : Int} (hdg : decode cc pc = .ok (.iadd, 1)) (k : W p l e R s m args below meth c H locs cells slots Q (F0 m (pc + 1) ls (.int (iz (a + b)) :: rest))) : W p l e R s m args below meth c H locs cells slots Q (F0 m pc ls (.int (iz b) :: .int (iz a) :: rest)) :=
  lv_iadd hexec hb hdg (by rw [iz_add]; exact k)
theorem ki_isub (hexec : p.tables.exec = Jvm.exec) (hb : c.code = cc) {a b : Int} (hdg : decode cc pc = .ok (.isub, 1)) (k : W p l e R s m args below meth c H locs cells slots Q (F0 m (pc + 1) ls (.int (iz (a - b)) :: rest))) : W p l e R s m args below meth c H locs cells slots Q (F0 m pc ls (.int (iz b) :: .int (iz a) :: rest)) :=
  lv_isub hexec hb hdg (by rw [iz_sub]; exact k)
theorem ki_imul (hexec : p.tables.exec = Jvm.exec) (hb : c.code = cc) {a b : Int} (hdg : decode cc pc = .ok (.imul, 1)) (k : W p l e R s m args below meth c H locs cells slots Q (F0 m (pc + 1) ls (.int (iz (a * b)) :: rest))) : W p l e R s m args below meth c H locs cells slots Q (F0 m pc ls (.int (iz b) :: .int (iz a) :: rest)) :=
  lv_imul hexec hb hdg (by rw [iz_mul]; exact k)
theorem ki_idiv (hexec : p.tables.exec = Jvm.exec) (hb : c.code = cc) {a b : Int} (hdg : decode cc pc = .ok (.idiv, 1)) (a1 : 0 ≤ a) (a2 : a < 2147483648) (b1 : 0 < b) (b2 : b < 2147483648) (k : W p l e R s m args below meth c H locs cells slots Q (F0 m (pc + 1) ls (.int (iz (a / b)) :: rest))) : W p l e R s m args below meth c H locs cells slots Q (F0 m pc ls (.int (iz b) :: .int (iz a) :: rest)) :=
  lv_idiv hexec hb hdg (fun h => by rw [iz_0, iz_eq (by omega) b2 (by omega) (by omega)] at h; omega) (by rw [iz_div a1 a2 b1 b2]; exact k)
theorem ki_irem (hexec : p.tables.exec = Jvm.exec) (hb : c.code = cc) {a b : Int} (hdg : decode cc pc = .ok (.irem, 1)) (a1 : 0 ≤ a) (a2 : a < 2147483648) (b1 : 0 < b) (b2 : b < 2147483648) (k : W p l e R s m args below meth c H locs cells slots Q (F0 m (pc + 1) ls (.int (iz (a % b)) :: rest))) : W p l e R s m args below meth c H locs cells slots Q (F0 m pc ls (.int (iz b) :: .int (iz a) :: rest)) :=
  lv_irem hexec hb hdg (fun h => by rw [iz_0, iz_eq (by omega) b2 (by omega) (by omega)] at h; omega) (by rw [iz_rem a1 a2 b1 b2]; exact k)
theorem ki_any {x : Int32} (k : ∀ z : Int, -2147483648 ≤ z → z < 2147483648 → W p l e R s m args below meth c H locs cells slots Q (F0 m pc ls (.int (iz z) :: rest))) : W p l e R s m args below meth c H locs cells slots Q (F0 m pc ls (.int x :: rest)) := by
  obtain ⟨z, ez, h1, h2⟩ := iz_of x
  rw [ez]
  exact k z h1 h2
theorem ki_is {x : Int32} {z : Int} (ez : x = iz z) (k : W p l e R s m args below meth c H locs cells slots Q (F0 m pc ls (.int (iz z) :: rest))) : W p l e R s m args below meth c H locs cells slots Q (F0 m pc ls (.int x :: rest)) := ez ▸ k
theorem ki_icmp_eq (hexec : p.tables.exec = Jvm.exec) (hb : c.code = cc) {a b off : Int} {tgt : Nat} (hdg : decode cc pc = .ok (.if_icmp .eq off, 3)) (ht : (pc : Int) + off = (tgt : Int)) (ha1 : -2147483648 ≤ a) (ha2 : a < 2147483648) (hb1 : -2147483648 ≤ b) (hb2 : b < 2147483648) (kt : a = b → W p l e R s m args below meth c H locs cells slots Q (F0 m tgt ls rest)) (kf : ¬ a = b → W p l e R s m args below meth c H locs cells slots Q (F0 m (pc + 3) ls rest)) : W p l e R s m args below meth c H locs cells slots Q (F0 m pc ls (.int (iz b) :: .int (iz a) :: rest)) :=
  lv_icmp_eq hexec hb hdg ht (fun h => kt (by rw [iz_eq ha1 ha2 hb1 hb2] at h; exact h)) (fun h => kf (by rw [iz_eq ha1 ha2 hb1 hb2] at h; exact h))
theorem ki_if_eq (hexec : p.tables.exec = Jvm.exec) (hb : c.code = cc) {a off : Int} {tgt : Nat} (hdg : decode cc pc = .ok (.ifCond .eq off, 3)) (ht : (pc : Int) + off = (tgt : Int)) (ha1 : -2147483648 ≤ a) (ha2 : a < 2147483648) (kt : a = 0 → W p l e R s m args below meth c H locs cells slots Q (F0 m tgt ls rest)) (kf : ¬ a = 0 → W p l e R s m args below meth c H locs cells slots Q (F0 m (pc + 3) ls rest)) : W p l e R s m args below meth c H locs cells slots Q (F0 m pc ls (.int (iz a) :: rest)) :=
  lv_if_eq hexec hb hdg ht (fun h => kt (by rw [iz_0, iz_eq ha1 ha2 (by decide) (by decide)] at h; exact h)) (fun h => kf (by rw [iz_0, iz_eq ha1 ha2 (by decide) (by decide)] at h; exact h))
theorem ki_icmp_ne (hexec : p.tables.exec = Jvm.exec) (hb : c.code = cc) {a b off : Int} {tgt : Nat} (hdg : decode cc pc = .ok (.if_icmp .ne off, 3)) (ht : (pc : Int) + off = (tgt : Int)) (ha1 : -2147483648 ≤ a) (ha2 : a < 2147483648) (hb1 : -2147483648 ≤ b) (hb2 : b < 2147483648) (kt : ¬ a = b → W p l e R s m args below meth c H locs cells slots Q (F0 m tgt ls rest)) (kf : a = b → W p l e R s m args below meth c H locs cells slots Q (F0 m (pc + 3) ls rest)) : W p l e R s m args below meth c H locs cells slots Q (F0 m pc ls (.int (iz b) :: .int (iz a) :: rest)) :=
  lv_icmp_ne hexec hb hdg ht (fun h => kt (by rw [iz_eq ha1 ha2 hb1 hb2] at h; exact h)) (fun h => kf (by rw [iz_eq ha1 ha2 hb1 hb2] at h; exact h))
theorem ki_if_ne (hexec : p.tables.exec = Jvm.exec) (hb : c.code = cc) {a off : Int} {tgt : Nat} (hdg : decode cc pc = .ok (.ifCond .ne off, 3)) (ht : (pc : Int) + off = (tgt : Int)) (ha1 : -2147483648 ≤ a) (ha2 : a < 2147483648) (kt : ¬ a = 0 → W p l e R s m args below meth c H locs cells slots Q (F0 m tgt ls rest)) (kf : a = 0 → W p l e R s m args below meth c H locs cells slots Q (F0 m (pc + 3) ls rest)) : W p l e R s m args below meth c H locs cells slots Q (F0 m pc ls (.int (iz a) :: rest)) :=
  lv_if_ne hexec hb hdg ht (fun h => kt (by rw [iz_0, iz_eq ha1 ha2 (by decide) (by decide)] at h; exact h)) (fun h => kf (by rw [iz_0, iz_eq ha1 ha2 (by decide) (by decide)] at h; exact h))
theorem ki_icmp_lt (hexec : p.tables.exec = Jvm.exec) (hb : c.code = cc) {a b off : Int} {tgt : Nat} (hdg : decode cc pc = .ok (.if_icmp .lt off, 3)) (ht : (pc : Int) + off = (tgt : Int)) (ha1 : -2147483648 ≤ a) (ha2 : a < 2147483648) (hb1 : -2147483648 ≤ b) (hb2 : b < 2147483648) (kt : a < b → W p l e R s m args below meth c H locs cells slots Q (F0 m tgt ls rest)) (kf : ¬ a < b → W p l e R s m args below meth c H locs cells slots Q (F0 m (pc + 3) ls rest)) : W p l e R s m args below meth c H locs cells slots Q (F0 m pc ls (.int (iz b) :: .int (iz a) :: rest)) :=
  lv_icmp_lt hexec hb hdg ht (fun h => kt (by rw [iz_lt ha1 ha2 hb1 hb2] at h; exact h)) (fun h => kf (by rw [iz_lt ha1 ha2 hb1 hb2] at h; exact h))
theorem ki_if_lt (hexec : p.tables.exec = Jvm.exec) (hb : c.code = cc) {a off : Int} {tgt : Nat} (hdg : decode cc pc = .ok (.ifCond .lt off, 3)) (ht : (pc : Int) + off = (tgt : Int)) (ha1 : -2147483648 ≤ a) (ha2 : a < 2147483648) (kt : a < 0 → W p l e R s m args below meth c H locs cells slots Q (F0 m tgt ls rest)) (kf : ¬ a < 0 → W p l e R s m args below meth c H locs cells slots Q (F0 m (pc + 3) ls rest)) : W p l e R s m args below meth c H locs cells slots Q (F0 m pc ls (.int (iz a) :: rest)) :=
  lv_if_lt hexec hb hdg ht (fun h => kt (by rw [iz_0, iz_lt ha1 ha2 (by decide) (by decide)] at h; exact h)) (fun h => kf (by rw [iz_0, iz_lt ha1 ha2 (by decide) (by decide)] at h; exact h))
theorem ki_icmp_ge (hexec : p.tables.exec = Jvm.exec) (hb : c.code = cc) {a b off : Int} {tgt : Nat} (hdg : decode cc pc = .ok (.if_icmp .ge off, 3)) (ht : (pc : Int) + off = (tgt : Int)) (ha1 : -2147483648 ≤ a) (ha2 : a < 2147483648) (hb1 : -2147483648 ≤ b) (hb2 : b < 2147483648) (kt : b ≤ a → W p l e R s m args below meth c H locs cells slots Q (F0 m tgt ls rest)) (kf : ¬ b ≤ a → W p l e R s m args below meth c H locs cells slots Q (F0 m (pc + 3) ls rest)) : W p l e R s m args below meth c H locs cells slots Q (F0 m pc ls (.int (iz b) :: .int (iz a) :: rest)) :=
  lv_icmp_ge hexec hb hdg ht (fun h => kt (by rw [iz_le hb1 hb2 ha1 ha2] at h; exact h)) (fun h => kf (by rw [iz_le hb1 hb2 ha1 ha2] at h; exact h))
theorem ki_if_ge (hexec : p.tables.exec = Jvm.exec) (hb : c.code = cc) {a off : Int} {tgt : Nat} (hdg : decode cc pc = .ok (.ifCond .ge off, 3)) (ht : (pc : Int) + off = (tgt : Int)) (ha1 : -2147483648 ≤ a) (ha2 : a < 2147483648) (kt : 0 ≤ a → W p l e R s m args below meth c H locs cells slots Q (F0 m tgt ls rest)) (kf : ¬ 0 ≤ a → W p l e R s m args below meth c H locs cells slots Q (F0 m (pc + 3) ls rest)) : W p l e R s m args below meth c H locs cells slots Q (F0 m pc ls (.int (iz a) :: rest)) :=
  lv_if_ge hexec hb hdg ht (fun h => kt (by rw [iz_0, iz_le (by decide) (by decide) ha1 ha2] at h; exact h)) (fun h => kf (by rw [iz_0, iz_le (by decide) (by decide) ha1 ha2] at h; exact h))
theorem ki_icmp_gt (hexec : p.tables.exec = Jvm.exec) (hb : c.code = cc) {a b off : Int} {tgt : Nat} (hdg : decode cc pc = .ok (.if_icmp .gt off, 3)) (ht : (pc : Int) + off = (tgt : Int)) (ha1 : -2147483648 ≤ a) (ha2 : a < 2147483648) (hb1 : -2147483648 ≤ b) (hb2 : b < 2147483648) (kt : b < a → W p l e R s m args below meth c H locs cells slots Q (F0 m tgt ls rest)) (kf : ¬ b < a → W p l e R s m args below meth c H locs cells slots Q (F0 m (pc + 3) ls rest)) : W p l e R s m args below meth c H locs cells slots Q (F0 m pc ls (.int (iz b) :: .int (iz a) :: rest)) :=
  lv_icmp_gt hexec hb hdg ht (fun h => kt (by rw [iz_lt hb1 hb2 ha1 ha2] at h; exact h)) (fun h => kf (by rw [iz_lt hb1 hb2 ha1 ha2] at h; exact h))
theorem ki_if_gt (hexec : p.tables.exec = Jvm.exec) (hb : c.code = cc) {a off : Int} {tgt : Nat} (hdg : decode cc pc = .ok (.ifCond .gt off, 3)) (ht : (pc : Int) + off = (tgt : Int)) (ha1 : -2147483648 ≤ a) (ha2 : a < 2147483648) (kt : 0 < a → W p l e R s m args below meth c H locs cells slots Q (F0 m tgt ls rest)) (kf : ¬ 0 < a → W p l e R s m args below meth c H locs cells slots Q (F0 m (pc + 3) ls rest)) : W p l e R s m args below meth c H locs cells slots Q (F0 m pc ls (.int (iz a) :: rest)) :=
  lv_if_gt hexec hb hdg ht (fun h => kt (by rw [iz_0, iz_lt (by decide) (by decide) ha1 ha2] at h; exact h)) (fun h => kf (by rw [iz_0, iz_lt (by decide) (by decide) ha1 ha2] at h; exact h))
theorem ki_icmp_le (hexec : p.tables.exec = Jvm.exec) (hb : c.code = cc) {a b off : Int} {tgt : Nat} (hdg : decode cc pc = .ok (.if_icmp .le off, 3)) (ht : (pc : Int) + off = (tgt : Int)) (ha1 : -2147483648 ≤ a) (ha2 : a < 2147483648) (hb1 : -2147483648 ≤ b) (hb2 : b < 2147483648) (kt : a ≤ b → W p l e R s m args below meth c H locs cells slots Q (F0 m tgt ls rest)) (kf : ¬ a ≤ b → W p l e R s m args below meth c H locs cells slots Q (F0 m (pc + 3) ls rest)) : W p l e R s m args below meth c H locs cells slots Q (F0 m pc ls (.int (iz b) :: .int (iz a) :: rest)) :=
  lv_icmp_le hexec hb hdg ht (fun h => kt (by rw [iz_le ha1 ha2 hb1 hb2] at h; exact h)) (fun h => kf (by rw [iz_le ha1 ha2 hb1 hb2] at h; exact h))
theorem ki_if_le (hexec : p.tables.exec = Jvm.exec) (hb : c.code = cc) {a off : Int} {tgt : Nat} (hdg : decode cc pc = .ok (.ifCond .le off, 3)) (ht : (pc : Int) + off = (tgt : Int)) (ha1 : -2147483648 ≤ a) (ha2 : a < 2147483648) (kt : a ≤ 0 → W p l e R s m args below meth c H locs cells slots Q (F0 m tgt ls rest)) (kf : ¬ a ≤ 0 → W p l e R s m args below meth c H locs cells slots Q (F0 m (pc + 3) ls rest)) : W p l e R s m args below meth c H locs cells slots Q (F0 m pc ls (.int (iz a) :: rest)) :=
  lv_if_le hexec hb hdg ht (fun h => kt (by rw [iz_0, iz_le ha1 ha2 (by decide) (by decide)] at h; exact h)) (fun h => kf (by rw [iz_0, iz_le ha1 ha2 (by decide) (by decide)] at h; exact h))
variable {D : va_G} {cl : List vw_C} {ws : va_W} {tys : List (ClassId × FieldType)} {A : Nat → Prop} {H0 : Heap} {a : Nat}
theorem ki_iald (hexec : p.tables.exec = Jvm.exec) (hb : c.code = cc) (hK : va_K D cl tys s) (hP : va_P D cl ws H) (q0 t0 : Nat) {cA : ClassId} {n : Nat} {F : Int → Int} (ha : ws[q0]? = some (a, .inl (cA, n, .inl (iA F)))) (ht : tys[t0]? = some (cA, .int)) {i : Int} (h0 : 0 ≤ i) (h1 : i < n) (hn : n ≤ 2147483647) (hdg : decode cc pc = .ok (.iaload, 1)) (kk : W p l e R s m args below meth c H locs cells slots Q (F0 m (pc + 1) ls (.int (iz (F i)) :: rest))) : W p l e R s m args below meth c H locs cells slots Q (F0 m pc ls (.int (iz i) :: .ref a :: rest)) :=
  va_iald hexec hb hK hP q0 t0 ha ht (iz_in h0 h1 hn) hdg (by rw [iA_at F h0 (by omega)]; exact kk)
theorem ki_bald (hexec : p.tables.exec = Jvm.exec) (hb : c.code = cc) (hK : va_K D cl tys s) (hP : va_P D cl ws H) (q0 t0 : Nat) {cA : ClassId} {n : Nat} {F : Int → Int} (ha : ws[q0]? = some (a, .inl (cA, n, .inl (iA F)))) (ht : tys[t0]? = some (cA, .byte)) {i : Int} (h0 : 0 ≤ i) (h1 : i < n) (hn : n ≤ 2147483647) (hdg : decode cc pc = .ok (.baload, 1)) (kk : W p l e R s m args below meth c H locs cells slots Q (F0 m (pc + 1) ls (.int (iz (F i)) :: rest))) : W p l e R s m args below meth c H locs cells slots Q (F0 m pc ls (.int (iz i) :: .ref a :: rest)) :=
  va_bald hexec hb hK hP q0 t0 ha ht (iz_in h0 h1 hn) hdg (by rw [iA_at F h0 (by omega)]; exact kk)
theorem ki_zald (hexec : p.tables.exec = Jvm.exec) (hb : c.code = cc) (hK : va_K D cl tys s) (hP : va_P D cl ws H) (q0 t0 : Nat) {cA : ClassId} {n : Nat} {F : Int → Int} (ha : ws[q0]? = some (a, .inl (cA, n, .inl (iA F)))) (ht : tys[t0]? = some (cA, .boolean)) {i : Int} (h0 : 0 ≤ i) (h1 : i < n) (hn : n ≤ 2147483647) (hdg : decode cc pc = .ok (.baload, 1)) (kk : W p l e R s m args below meth c H locs cells slots Q (F0 m (pc + 1) ls (.int (iz (F i)) :: rest))) : W p l e R s m args below meth c H locs cells slots Q (F0 m pc ls (.int (iz i) :: .ref a :: rest)) :=
  va_zald hexec hb hK hP q0 t0 ha ht (iz_in h0 h1 hn) hdg (by rw [iA_at F h0 (by omega)]; exact kk)
theorem ki_iast (hexec : p.tables.exec = Jvm.exec) (hb : c.code = cc) (hK : va_K D cl tys s) (hP : va_P D cl ws H) (hD : va_D A ws) (hS : va_S A H0 H locs) (q0 t0 : Nat) {cA : ClassId} {n : Nat} {F : Int → Int} (ha : ws[q0]? = some (a, .inl (cA, n, .inl (iA F)))) (ht : tys[t0]? = some (cA, .int)) {i v : Int} (h0 : 0 ≤ i) (h1 : i < n) (hn : n ≤ 2147483647) (hdg : decode cc pc = .ok (.iastore, 1)) (kk : ∀ (H1 : Heap) (locs1 : List Loc), va_P D cl (ws.set q0 (a, .inl (cA, n, .inl (iA (upI F i v))))) H1 → va_D A (ws.set q0 (a, .inl (cA, n, .inl (iA (upI F i v))))) → va_S A H0 H1 locs1 → W p l e R s m args below meth c H1 locs1 cells slots Q (F0 m (pc + 1) ls rest)) : W p l e R s m args below meth c H locs cells slots Q (F0 m pc ls (.int (iz v) :: .int (iz i) :: .ref a :: rest)) :=
  va_iast hexec hb hK hP hD hS q0 t0 ha ht (iz_in h0 h1 hn) hdg (fun H1 locs1 => by rw [iA_up F v h0 (by omega)]; exact kk H1 locs1)
theorem ki_bast (hexec : p.tables.exec = Jvm.exec) (hb : c.code = cc) (hK : va_K D cl tys s) (hP : va_P D cl ws H) (hD : va_D A ws) (hS : va_S A H0 H locs) (q0 t0 : Nat) {cA : ClassId} {n : Nat} {F : Int → Int} (ha : ws[q0]? = some (a, .inl (cA, n, .inl (iA F)))) (ht : tys[t0]? = some (cA, .byte)) {i v : Int} (h0 : 0 ≤ i) (h1 : i < n) (hn : n ≤ 2147483647) (hdg : decode cc pc = .ok (.bastore, 1)) (kk : ∀ (H1 : Heap) (locs1 : List Loc), va_P D cl (ws.set q0 (a, .inl (cA, n, .inl (iA (upI F i (vp_nar .byte (iz v)).toInt))))) H1 → va_D A (ws.set q0 (a, .inl (cA, n, .inl (iA (upI F i (vp_nar .byte (iz v)).toInt))))) → va_S A H0 H1 locs1 → W p l e R s m args below meth c H1 locs1 cells slots Q (F0 m (pc + 1) ls rest)) : W p l e R s m args below meth c H locs cells slots Q (F0 m pc ls (.int (iz v) :: .int (iz i) :: .ref a :: rest)) :=
  va_bast hexec hb hK hP hD hS q0 t0 ha ht (iz_in h0 h1 hn) hdg (fun H1 locs1 => by rw [show upd (iA F) (iz i).toNatClampNeg (vp_nar .byte (iz v)) = iA (upI F i (vp_nar .byte (iz v)).toInt) by rw [← iA_up F _ h0 (by omega), iz_self]]; exact kk H1 locs1)
theorem ki_zast (hexec : p.tables.exec = Jvm.exec) (hb : c.code = cc) (hK : va_K D cl tys s) (hP : va_P D cl ws H) (hD : va_D A ws) (hS : va_S A H0 H locs) (q0 t0 : Nat) {cA : ClassId} {n : Nat} {F : Int → Int} (ha : ws[q0]? = some (a, .inl (cA, n, .inl (iA F)))) (ht : tys[t0]? = some (cA, .boolean)) {i v : Int} (h0 : 0 ≤ i) (h1 : i < n) (hn : n ≤ 2147483647) (hdg : decode cc pc = .ok (.bastore, 1)) (kk : ∀ (H1 : Heap) (locs1 : List Loc), va_P D cl (ws.set q0 (a, .inl (cA, n, .inl (iA (upI F i (vp_nar .boolean (iz v)).toInt))))) H1 → va_D A (ws.set q0 (a, .inl (cA, n, .inl (iA (upI F i (vp_nar .boolean (iz v)).toInt))))) → va_S A H0 H1 locs1 → W p l e R s m args below meth c H1 locs1 cells slots Q (F0 m (pc + 1) ls rest)) : W p l e R s m args below meth c H locs cells slots Q (F0 m pc ls (.int (iz v) :: .int (iz i) :: .ref a :: rest)) :=
  va_zast hexec hb hK hP hD hS q0 t0 ha ht (iz_in h0 h1 hn) hdg (fun H1 locs1 => by rw [show upd (iA F) (iz i).toNatClampNeg (vp_nar .boolean (iz v)) = iA (upI F i (vp_nar .boolean (iz v)).toInt) by rw [← iA_up F _ h0 (by omega), iz_self]]; exact kk H1 locs1)
end KI
