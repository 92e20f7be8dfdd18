/-! THE J LAYER. A memory is Nat → Nat → Int32 (cell, slot); a world w makes the cells out of it. jW E G K pc lv st: the machine stands at pc, with locals lv, stack st, memory K, and comes to the end that G asks for. Every row that may fail on the machine (an index, a divisor, a boolean field) takes 'hf', an equation of the method's pure function, which says that it doesn't. -/
abbrev Mem : Type := Nat → Nat → Int32
def ks (K : Mem) (i k : Nat) (v : Int32) : Mem := fun a b => if a = i then (if b = k then v else K a b) else K a b
/-- a store, then the rest -/
abbrev st {α : Type} (K : Mem) (i k : Nat) (v : Int32) (f : Mem → α) : α := f (ks K i k v)
/-- a named value, then the rest -/
abbrev lt {α β : Type} (v : β) (f : β → α) : α := f v
def inb (x : Int32) (n : Nat) : Bool := decide (¬ x < 0) && decide (x.toNatClampNeg < n)
theorem inb_in {x : Int32} {n : Nat} (h : inb x n = true) : vp_in x n := by
  simp only [inb, Bool.and_eq_true, decide_eq_true_eq] at h
  exact fun q => q.elim h.1 (fun q => Nat.not_lt.mpr q h.2)
abbrev ix (x : Int32) : Nat := x.toNatClampNeg
def bb (v : Int32) : Bool := decide (v = 0) || decide (v = 1)
theorem bb_nar {v : Int32} (h : bb v = true) : narrow .boolean (.int v) = .int v := by
  simp only [bb, Bool.or_eq_true, decide_eq_true_eq] at h
  rcases h with rfl | rfl <;> rfl
theorem bb_fit {v : Int32} (h : bb v = true) : fits .boolean (.int v) = true := by
  simp only [bb, Bool.or_eq_true, decide_eq_true_eq] at h
  rcases h with rfl | rfl <;> rfl
def jrem (x y : Int32) : Int32 := x - x / y * y
def jshl (x y : Int32) : Int32 := x <<< (y &&& 31)
def jushr (x y : Int32) : Int32 := (x.toUInt32 >>> (y.toUInt32 &&& Int32.toUInt32 31)).toInt32
def js16 (x : Int32) : Int32 := x.toInt16.toInt32
def nn (r : UInt32) : Bool := decide (r &&& 0x7fffffff ≤ 0x7f800000)
theorem nn_n {r : UInt32} (h : nn r = true) : vf_n32 r := by
  simp only [nn, decide_eq_true_eq] at h
  exact h
theorem bd {α β : Type} {X : Option α} {f : α → Option β} {u : β} (h : X.bind f = some u) : ∃ v, X = some v ∧ f v = some u := by
  cases X with
  | none => cases h
  | some v => exact ⟨v, rfl, h⟩
theorem cP {D : va_G} {cl : List vw_C} {a b : va_W} {H : Heap} (e : a = b) (h : va_P D cl a H) : va_P D cl b H := by rw [← e]; exact h
theorem cD {A : Nat → Prop} {a b : va_W} (e : a = b) (h : va_D A a) : va_D A b := by rw [← e]; exact h
abbrev jE : Type := Launch × va_G × (Mem → va_W) × (Nat → Nat → Prop) × List (ClassId × FieldType) × (State → Prop)
abbrev jG : Type := Program × Env × Room × State × MethodId × Array Value × List Frame × Method × Code × Nat × (State → Prop)
def jW : jE → jG → Mem → Nat → List (Nat × Value) → List Value → Prop
  | (l, D, w, AA, _, _), (p, e, R, s, m, args, below, meth, c, nL, Q), K, pc, lv, stk => ∀ (H : Heap) (locs : List Loc) (ls : Array Slot), va_P D vwCl (w K) H → va_D (AA s.heap.size) (w K) → va_S (AA s.heap.size) s.heap H locs → lv_has ls nL lv → W p l e R s m args below meth c H locs 0 0 Q (F0 m pc ls stk)
/-- what the world must be: what may be written; apartness is of the addresses alone; the nest words stay -/
def jOK : jE → Prop
  | (_, _, w, AA, _, NW) => (∀ sz q, sz ≤ q → AA sz q) ∧ (∀ sz sz' q, sz ≤ sz' → AA sz' q → AA sz q) ∧ (∀ X K K' sz, va_D X (w K) → va_D (AA sz) (w K')) ∧ (∀ s U : State, s.WarmedH U.vm → NW s → NW U) ∧ ∀ U U' : State, U'.vm = U.vm → NW U → NW U'
def jC : jE → jG → ByteArray → String → List Cond → Room → Nat → Prop
  | (l, D, w, AA, tys, NW), (p, _, R, s, m, args, _, _, c, nL, _), cc, own, Ts, rm, n0 => CallFix p m c cc nL s args Ts own ∧ va_K D vwCl tys s ∧ NW s ∧ R = rm ∧ nL = n0 ∧ jOK (l, D, w, AA, tys, NW)
section JR
variable {E : jE} {G : jG} {cc : ByteArray} {own : String} {Ts : List Cond} {rm : Room} {n0 : Nat} {K : Mem} {pc : Nat} {lv : List (Nat × Value)} {stk : List Value}
theorem j_iconst (C : jC E G cc own Ts rm n0) {n : Int} {v : Int32} (hd : decode cc pc = .ok (.iconst n, 1)) (hv : Int32.ofInt n = v) (k : jW E G K (pc + 1) lv (.int v :: stk)) : jW E G K (pc) lv (stk) := by
  obtain ⟨l, D, w, AA, tys, NW⟩ := E
  obtain ⟨p, e, R, s, m, args, below, meth, c, nL, Q⟩ := G
  obtain ⟨⟨hx, hb, hml, hown, hts⟩, hK, hN, hR, hn0, hO⟩ := C
  intro H locs ls hP hD hS hl
  exact lv_iconst hx hb hd hv (k H locs ls hP hD hS hl)
theorem j_bipush (C : jC E G cc own Ts rm n0) {n : Int} {v : Int32} (hd : decode cc pc = .ok (.bipush n, 2)) (hv : (Int8.ofInt n).toInt32 = v) (k : jW E G K (pc + 2) lv (.int v :: stk)) : jW E G K (pc) lv (stk) := by
  obtain ⟨l, D, w, AA, tys, NW⟩ := E
  obtain ⟨p, e, R, s, m, args, below, meth, c, nL, Q⟩ := G
  obtain ⟨⟨hx, hb, hml, hown, hts⟩, hK, hN, hR, hn0, hO⟩ := C
  intro H locs ls hP hD hS hl
  exact lv_bipush hx hb hd hv (k H locs ls hP hD hS hl)
theorem j_sipush (C : jC E G cc own Ts rm n0) {n : Int} {v : Int32} (hd : decode cc pc = .ok (.sipush n, 3)) (hv : (Int16.ofInt n).toInt32 = v) (k : jW E G K (pc + 3) lv (.int v :: stk)) : jW E G K (pc) lv (stk) := by
  obtain ⟨l, D, w, AA, tys, NW⟩ := E
  obtain ⟨p, e, R, s, m, args, below, meth, c, nL, Q⟩ := G
  obtain ⟨⟨hx, hb, hml, hown, hts⟩, hK, hN, hR, hn0, hO⟩ := C
  intro H locs ls hP hD hS hl
  exact lv_sipush hx hb hd hv (k H locs ls hP hD hS hl)
theorem j_iload_n (C : jC E G cc own Ts rm n0) {i0 : Fin 4} {i : Nat} {x : Int32} (j : Nat) (hd : decode cc pc = .ok (.iload_n i0, 1)) (hi : (i0 : Nat) = i) (hj : lv[j]? = some (i, .int x)) (k : jW E G K (pc + 1) lv (.int x :: stk)) : jW E G K (pc) lv (stk) := by
  obtain ⟨l, D, w, AA, tys, NW⟩ := E
  obtain ⟨p, e, R, s, m, args, below, meth, c, nL, Q⟩ := G
  obtain ⟨⟨hx, hb, hml, hown, hts⟩, hK, hN, hR, hn0, hO⟩ := C
  intro H locs ls hP hD hS hl
  exact lv_iload_n hx hb hd hi (lv_at hl j hj) (k H locs ls hP hD hS hl)
theorem j_iload (C : jC E G cc own Ts rm n0) {i : Nat} {x : Int32} (j : Nat) (hd : decode cc pc = .ok (.iload i, 2)) (hj : lv[j]? = some (i, .int x)) (k : jW E G K (pc + 2) lv (.int x :: stk)) : jW E G K (pc) lv (stk) := by
  obtain ⟨l, D, w, AA, tys, NW⟩ := E
  obtain ⟨p, e, R, s, m, args, below, meth, c, nL, Q⟩ := G
  obtain ⟨⟨hx, hb, hml, hown, hts⟩, hK, hN, hR, hn0, hO⟩ := C
  intro H locs ls hP hD hS hl
  exact lv_iload hx hb hd (lv_at hl j hj) (k H locs ls hP hD hS hl)
theorem j_aload_n (C : jC E G cc own Ts rm n0) {i0 : Fin 4} {i : Nat} {x : Nat} (j : Nat) (hd : decode cc pc = .ok (.aload_n i0, 1)) (hi : (i0 : Nat) = i) (hj : lv[j]? = some (i, .ref x)) (k : jW E G K (pc + 1) lv (.ref x :: stk)) : jW E G K (pc) lv (stk) := by
  obtain ⟨l, D, w, AA, tys, NW⟩ := E
  obtain ⟨p, e, R, s, m, args, below, meth, c, nL, Q⟩ := G
  obtain ⟨⟨hx, hb, hml, hown, hts⟩, hK, hN, hR, hn0, hO⟩ := C
  intro H locs ls hP hD hS hl
  exact lv_aload_n hx hb hd hi (lv_at hl j hj) (k H locs ls hP hD hS hl)
theorem j_aload (C : jC E G cc own Ts rm n0) {i : Nat} {x : Nat} (j : Nat) (hd : decode cc pc = .ok (.aload i, 2)) (hj : lv[j]? = some (i, .ref x)) (k : jW E G K (pc + 2) lv (.ref x :: stk)) : jW E G K (pc) lv (stk) := by
  obtain ⟨l, D, w, AA, tys, NW⟩ := E
  obtain ⟨p, e, R, s, m, args, below, meth, c, nL, Q⟩ := G
  obtain ⟨⟨hx, hb, hml, hown, hts⟩, hK, hN, hR, hn0, hO⟩ := C
  intro H locs ls hP hD hS hl
  exact lv_aload hx hb hd (lv_at hl j hj) (k H locs ls hP hD hS hl)
theorem j_fload_n (C : jC E G cc own Ts rm n0) {i0 : Fin 4} {i : Nat} {x : UInt32} (j : Nat) (hd : decode cc pc = .ok (.fload_n i0, 1)) (hi : (i0 : Nat) = i) (hj : lv[j]? = some (i, .float x)) (k : jW E G K (pc + 1) lv (.float x :: stk)) : jW E G K (pc) lv (stk) := by
  obtain ⟨l, D, w, AA, tys, NW⟩ := E
  obtain ⟨p, e, R, s, m, args, below, meth, c, nL, Q⟩ := G
  obtain ⟨⟨hx, hb, hml, hown, hts⟩, hK, hN, hR, hn0, hO⟩ := C
  intro H locs ls hP hD hS hl
  exact lv_fload_n hx hb hd hi (lv_at hl j hj) (k H locs ls hP hD hS hl)
theorem j_istore_n (C : jC E G cc own Ts rm n0) {α : Type} {f : Int32 → Option α} {u : α} {i0 : Fin 4} {i : Nat} {x : Int32} (lv2 : Int32 → List (Nat × Value)) (hd : decode cc pc = .ok (.istore_n i0, 1)) (hi : (i0 : Nat) = i) (hn : i < n0) (hl2 : ∀ y, (i, Value.int y) :: lv.filter (fun q => !(q.1 == i) && !(q.1 + 1 == i && q.2.category == 2)) = lv2 y) (hf : lt x f = some u) (k : ∀ y, f y = some u → jW E G K (pc + 1) (lv2 y) (stk)) : jW E G K (pc) lv (.int x :: stk) := by
  obtain ⟨l, D, w, AA, tys, NW⟩ := E
  obtain ⟨p, e, R, s, m, args, below, meth, c, nL, Q⟩ := G
  obtain ⟨⟨hx, hb, hml, hown, hts⟩, hK, hN, hR, hn0, hO⟩ := C
  intro H locs ls hP hD hS hl
  exact lv_istore_n hx hb hd hi hl (by rw [hn0]; exact hn) (hl2 x) (fun ls' hl' => k x hf H locs ls' hP hD hS hl')
theorem j_istore (C : jC E G cc own Ts rm n0) {α : Type} {f : Int32 → Option α} {u : α} {i : Nat} {x : Int32} (lv2 : Int32 → List (Nat × Value)) (hd : decode cc pc = .ok (.istore i, 2)) (hn : i < n0) (hl2 : ∀ y, (i, Value.int y) :: lv.filter (fun q => !(q.1 == i) && !(q.1 + 1 == i && q.2.category == 2)) = lv2 y) (hf : lt x f = some u) (k : ∀ y, f y = some u → jW E G K (pc + 2) (lv2 y) (stk)) : jW E G K (pc) lv (.int x :: stk) := by
  obtain ⟨l, D, w, AA, tys, NW⟩ := E
  obtain ⟨p, e, R, s, m, args, below, meth, c, nL, Q⟩ := G
  obtain ⟨⟨hx, hb, hml, hown, hts⟩, hK, hN, hR, hn0, hO⟩ := C
  intro H locs ls hP hD hS hl
  exact lv_istore hx hb hd hl (by rw [hn0]; exact hn) (hl2 x) (fun ls' hl' => k x hf H locs ls' hP hD hS hl')
theorem j_fstore_n (C : jC E G cc own Ts rm n0) {α : Type} {f : UInt32 → Option α} {u : α} {i0 : Fin 4} {i : Nat} {x : UInt32} (lv2 : UInt32 → List (Nat × Value)) (hd : decode cc pc = .ok (.fstore_n i0, 1)) (hi : (i0 : Nat) = i) (hn : i < n0) (hl2 : ∀ y, (i, Value.float y) :: lv.filter (fun q => !(q.1 == i) && !(q.1 + 1 == i && q.2.category == 2)) = lv2 y) (hf : lt x f = some u) (k : ∀ y, f y = some u → jW E G K (pc + 1) (lv2 y) (stk)) : jW E G K (pc) lv (.float x :: stk) := by
  obtain ⟨l, D, w, AA, tys, NW⟩ := E
  obtain ⟨p, e, R, s, m, args, below, meth, c, nL, Q⟩ := G
  obtain ⟨⟨hx, hb, hml, hown, hts⟩, hK, hN, hR, hn0, hO⟩ := C
  intro H locs ls hP hD hS hl
  exact lv_fstore_n hx hb hd hi hl (by rw [hn0]; exact hn) (hl2 x) (fun ls' hl' => k x hf H locs ls' hP hD hS hl')
theorem j_fstore (C : jC E G cc own Ts rm n0) {α : Type} {f : UInt32 → Option α} {u : α} {i : Nat} {x : UInt32} (lv2 : UInt32 → List (Nat × Value)) (hd : decode cc pc = .ok (.fstore i, 2)) (hn : i < n0) (hl2 : ∀ y, (i, Value.float y) :: lv.filter (fun q => !(q.1 == i) && !(q.1 + 1 == i && q.2.category == 2)) = lv2 y) (hf : lt x f = some u) (k : ∀ y, f y = some u → jW E G K (pc + 2) (lv2 y) (stk)) : jW E G K (pc) lv (.float x :: stk) := by
  obtain ⟨l, D, w, AA, tys, NW⟩ := E
  obtain ⟨p, e, R, s, m, args, below, meth, c, nL, Q⟩ := G
  obtain ⟨⟨hx, hb, hml, hown, hts⟩, hK, hN, hR, hn0, hO⟩ := C
  intro H locs ls hP hD hS hl
  exact lv_fstore hx hb hd hl (by rw [hn0]; exact hn) (hl2 x) (fun ls' hl' => k x hf H locs ls' hP hD hS hl')
theorem j_astore_n (C : jC E G cc own Ts rm n0) {i0 : Fin 4} {i x : Nat} (lv2 : List (Nat × Value)) (hd : decode cc pc = .ok (.astore_n i0, 1)) (hi : (i0 : Nat) = i) (hn : i < n0) (hl2 : (i, Value.ref x) :: lv.filter (fun q => !(q.1 == i) && !(q.1 + 1 == i && q.2.category == 2)) = lv2) (k : jW E G K (pc + 1) lv2 (stk)) : jW E G K (pc) lv (.ref x :: stk) := by
  obtain ⟨l, D, w, AA, tys, NW⟩ := E
  obtain ⟨p, e, R, s, m, args, below, meth, c, nL, Q⟩ := G
  obtain ⟨⟨hx, hb, hml, hown, hts⟩, hK, hN, hR, hn0, hO⟩ := C
  intro H locs ls hP hD hS hl
  exact lv_astore_n hx hb hd hi hl (by rw [hn0]; exact hn) hl2 (fun ls' hl' => k H locs ls' hP hD hS hl')
theorem j_astore (C : jC E G cc own Ts rm n0) {i x : Nat} (lv2 : List (Nat × Value)) (hd : decode cc pc = .ok (.astore i, 2)) (hn : i < n0) (hl2 : (i, Value.ref x) :: lv.filter (fun q => !(q.1 == i) && !(q.1 + 1 == i && q.2.category == 2)) = lv2) (k : jW E G K (pc + 2) lv2 (stk)) : jW E G K (pc) lv (.ref x :: stk) := by
  obtain ⟨l, D, w, AA, tys, NW⟩ := E
  obtain ⟨p, e, R, s, m, args, below, meth, c, nL, Q⟩ := G
  obtain ⟨⟨hx, hb, hml, hown, hts⟩, hK, hN, hR, hn0, hO⟩ := C
  intro H locs ls hP hD hS hl
  exact lv_astore hx hb hd hl (by rw [hn0]; exact hn) hl2 (fun ls' hl' => k H locs ls' hP hD hS hl')
theorem j_astore_nN (C : jC E G cc own Ts rm n0) {i0 : Fin 4} {i : Nat} (lv2 : List (Nat × Value)) (hd : decode cc pc = .ok (.astore_n i0, 1)) (hi : (i0 : Nat) = i) (hn : i < n0) (hl2 : (i, Value.null) :: lv.filter (fun q => !(q.1 == i) && !(q.1 + 1 == i && q.2.category == 2)) = lv2) (k : jW E G K (pc + 1) lv2 (stk)) : jW E G K (pc) lv (.null :: stk) := by
  obtain ⟨l, D, w, AA, tys, NW⟩ := E
  obtain ⟨p, e, R, s, m, args, below, meth, c, nL, Q⟩ := G
  obtain ⟨⟨hx, hb, hml, hown, hts⟩, hK, hN, hR, hn0, hO⟩ := C
  intro H locs ls hP hD hS hl
  exact lv_astore_nN hx hb hd hi hl (by rw [hn0]; exact hn) hl2 (fun ls' hl' => k H locs ls' hP hD hS hl')
theorem j_astoreN (C : jC E G cc own Ts rm n0) {i : Nat} (lv2 : List (Nat × Value)) (hd : decode cc pc = .ok (.astore i, 2)) (hn : i < n0) (hl2 : (i, Value.null) :: lv.filter (fun q => !(q.1 == i) && !(q.1 + 1 == i && q.2.category == 2)) = lv2) (k : jW E G K (pc + 2) lv2 (stk)) : jW E G K (pc) lv (.null :: stk) := by
  obtain ⟨l, D, w, AA, tys, NW⟩ := E
  obtain ⟨p, e, R, s, m, args, below, meth, c, nL, Q⟩ := G
  obtain ⟨⟨hx, hb, hml, hown, hts⟩, hK, hN, hR, hn0, hO⟩ := C
  intro H locs ls hP hD hS hl
  exact lv_astoreN hx hb hd hl (by rw [hn0]; exact hn) hl2 (fun ls' hl' => k H locs ls' hP hD hS hl')
theorem j_aload_nN (C : jC E G cc own Ts rm n0) {i0 : Fin 4} {i : Nat} (j : Nat) (hd : decode cc pc = .ok (.aload_n i0, 1)) (hi : (i0 : Nat) = i) (hj : lv[j]? = some (i, .null)) (k : jW E G K (pc + 1) lv (.null :: stk)) : jW E G K (pc) lv (stk) := by
  obtain ⟨l, D, w, AA, tys, NW⟩ := E
  obtain ⟨p, e, R, s, m, args, below, meth, c, nL, Q⟩ := G
  obtain ⟨⟨hx, hb, hml, hown, hts⟩, hK, hN, hR, hn0, hO⟩ := C
  intro H locs ls hP hD hS hl
  exact lv_aload_nN hx hb hd hi (lv_at hl j hj) (k H locs ls hP hD hS hl)
theorem j_aloadN (C : jC E G cc own Ts rm n0) {i : Nat} (j : Nat) (hd : decode cc pc = .ok (.aload i, 2)) (hj : lv[j]? = some (i, .null)) (k : jW E G K (pc + 2) lv (.null :: stk)) : jW E G K (pc) lv (stk) := by
  obtain ⟨l, D, w, AA, tys, NW⟩ := E
  obtain ⟨p, e, R, s, m, args, below, meth, c, nL, Q⟩ := G
  obtain ⟨⟨hx, hb, hml, hown, hts⟩, hK, hN, hR, hn0, hO⟩ := C
  intro H locs ls hP hD hS hl
  exact lv_aloadN hx hb hd (lv_at hl j hj) (k H locs ls hP hD hS hl)
theorem j_iinc (C : jC E G cc own Ts rm n0) {α : Type} {f : Int32 → Option α} {u : α} {i : Nat} {n : Int} {x v : Int32} (j : Nat) (lv2 : Int32 → List (Nat × Value)) (hd : decode cc pc = .ok (.iinc i n, 3)) (hj : lv[j]? = some (i, .int x)) (hv : x + Int32.ofInt n = v) (hn : i < n0) (hl2 : ∀ y, (i, Value.int y) :: lv.filter (fun q => !(q.1 == i) && !(q.1 + 1 == i && q.2.category == 2)) = lv2 y) (hf : lt v f = some u) (k : ∀ y, f y = some u → jW E G K (pc + 3) (lv2 y) (stk)) : jW E G K (pc) lv (stk) := by
  obtain ⟨l, D, w, AA, tys, NW⟩ := E
  obtain ⟨p, e, R, s, m, args, below, meth, c, nL, Q⟩ := G
  obtain ⟨⟨hx, hb, hml, hown, hts⟩, hK, hN, hR, hn0, hO⟩ := C
  intro H locs ls hP hD hS hl
  exact lv_iinc hx hb hd hl hj hv (by rw [hn0]; exact hn) (hl2 v) (fun ls' hl' => k v hf H locs ls' hP hD hS hl')
theorem j_iadd (C : jC E G cc own Ts rm n0) {x y : Int32} (hd : decode cc pc = .ok (.iadd, 1)) (k : jW E G K (pc + 1) lv (.int (x + y) :: stk)) : jW E G K (pc) lv (.int y :: .int x :: stk) := by
  obtain ⟨l, D, w, AA, tys, NW⟩ := E
  obtain ⟨p, e, R, s, m, args, below, meth, c, nL, Q⟩ := G
  obtain ⟨⟨hx, hb, hml, hown, hts⟩, hK, hN, hR, hn0, hO⟩ := C
  intro H locs ls hP hD hS hl
  exact lv_iadd hx hb hd (k H locs ls hP hD hS hl)
theorem j_isub (C : jC E G cc own Ts rm n0) {x y : Int32} (hd : decode cc pc = .ok (.isub, 1)) (k : jW E G K (pc + 1) lv (.int (x - y) :: stk)) : jW E G K (pc) lv (.int y :: .int x :: stk) := by
  obtain ⟨l, D, w, AA, tys, NW⟩ := E
  obtain ⟨p, e, R, s, m, args, below, meth, c, nL, Q⟩ := G
  obtain ⟨⟨hx, hb, hml, hown, hts⟩, hK, hN, hR, hn0, hO⟩ := C
  intro H locs ls hP hD hS hl
  exact lv_isub hx hb hd (k H locs ls hP hD hS hl)
theorem j_imul (C : jC E G cc own Ts rm n0) {x y : Int32} (hd : decode cc pc = .ok (.imul, 1)) (k : jW E G K (pc + 1) lv (.int (x * y) :: stk)) : jW E G K (pc) lv (.int y :: .int x :: stk) := by
  obtain ⟨l, D, w, AA, tys, NW⟩ := E
  obtain ⟨p, e, R, s, m, args, below, meth, c, nL, Q⟩ := G
  obtain ⟨⟨hx, hb, hml, hown, hts⟩, hK, hN, hR, hn0, hO⟩ := C
  intro H locs ls hP hD hS hl
  exact lv_imul hx hb hd (k H locs ls hP hD hS hl)
theorem j_iand (C : jC E G cc own Ts rm n0) {x y : Int32} (hd : decode cc pc = .ok (.iand, 1)) (k : jW E G K (pc + 1) lv (.int (x &&& y) :: stk)) : jW E G K (pc) lv (.int y :: .int x :: stk) := by
  obtain ⟨l, D, w, AA, tys, NW⟩ := E
  obtain ⟨p, e, R, s, m, args, below, meth, c, nL, Q⟩ := G
  obtain ⟨⟨hx, hb, hml, hown, hts⟩, hK, hN, hR, hn0, hO⟩ := C
  intro H locs ls hP hD hS hl
  exact lv_iand hx hb hd (k H locs ls hP hD hS hl)
theorem j_ior (C : jC E G cc own Ts rm n0) {x y : Int32} (hd : decode cc pc = .ok (.ior, 1)) (k : jW E G K (pc + 1) lv (.int (x ||| y) :: stk)) : jW E G K (pc) lv (.int y :: .int x :: stk) := by
  obtain ⟨l, D, w, AA, tys, NW⟩ := E
  obtain ⟨p, e, R, s, m, args, below, meth, c, nL, Q⟩ := G
  obtain ⟨⟨hx, hb, hml, hown, hts⟩, hK, hN, hR, hn0, hO⟩ := C
  intro H locs ls hP hD hS hl
  exact lv_ior hx hb hd (k H locs ls hP hD hS hl)
theorem j_ixor (C : jC E G cc own Ts rm n0) {x y : Int32} (hd : decode cc pc = .ok (.ixor, 1)) (k : jW E G K (pc + 1) lv (.int (x ^^^ y) :: stk)) : jW E G K (pc) lv (.int y :: .int x :: stk) := by
  obtain ⟨l, D, w, AA, tys, NW⟩ := E
  obtain ⟨p, e, R, s, m, args, below, meth, c, nL, Q⟩ := G
  obtain ⟨⟨hx, hb, hml, hown, hts⟩, hK, hN, hR, hn0, hO⟩ := C
  intro H locs ls hP hD hS hl
  exact lv_ixor hx hb hd (k H locs ls hP hD hS hl)
theorem j_ishl (C : jC E G cc own Ts rm n0) {x y : Int32} (hd : decode cc pc = .ok (.ishl, 1)) (k : jW E G K (pc + 1) lv (.int (jshl x y) :: stk)) : jW E G K (pc) lv (.int y :: .int x :: stk) := by
  obtain ⟨l, D, w, AA, tys, NW⟩ := E
  obtain ⟨p, e, R, s, m, args, below, meth, c, nL, Q⟩ := G
  obtain ⟨⟨hx, hb, hml, hown, hts⟩, hK, hN, hR, hn0, hO⟩ := C
  intro H locs ls hP hD hS hl
  exact lv_ishl hx hb hd (k H locs ls hP hD hS hl)
theorem j_iushr (C : jC E G cc own Ts rm n0) {x y : Int32} (hd : decode cc pc = .ok (.iushr, 1)) (k : jW E G K (pc + 1) lv (.int (jushr x y) :: stk)) : jW E G K (pc) lv (.int y :: .int x :: stk) := by
  obtain ⟨l, D, w, AA, tys, NW⟩ := E
  obtain ⟨p, e, R, s, m, args, below, meth, c, nL, Q⟩ := G
  obtain ⟨⟨hx, hb, hml, hown, hts⟩, hK, hN, hR, hn0, hO⟩ := C
  intro H locs ls hP hD hS hl
  exact lv_iushr hx hb hd rfl (k H locs ls hP hD hS hl)
theorem j_i2s (C : jC E G cc own Ts rm n0) {x : Int32} (hd : decode cc pc = .ok (.i2s, 1)) (k : jW E G K (pc + 1) lv (.int (js16 x) :: stk)) : jW E G K (pc) lv (.int x :: stk) := by
  obtain ⟨l, D, w, AA, tys, NW⟩ := E
  obtain ⟨p, e, R, s, m, args, below, meth, c, nL, Q⟩ := G
  obtain ⟨⟨hx, hb, hml, hown, hts⟩, hK, hN, hR, hn0, hO⟩ := C
  intro H locs ls hP hD hS hl
  exact lv_i2s hx hb hd rfl (k H locs ls hP hD hS hl)
theorem j_irem (C : jC E G cc own Ts rm n0) {x y : Int32} (hd : decode cc pc = .ok (.irem, 1)) (hne : ¬ y = 0) (k : jW E G K (pc + 1) lv (.int (jrem x y) :: stk)) : jW E G K (pc) lv (.int y :: .int x :: stk) := by
  obtain ⟨l, D, w, AA, tys, NW⟩ := E
  obtain ⟨p, e, R, s, m, args, below, meth, c, nL, Q⟩ := G
  obtain ⟨⟨hx, hb, hml, hown, hts⟩, hK, hN, hR, hn0, hO⟩ := C
  intro H locs ls hP hD hS hl
  exact lv_irem hx hb hd hne (k H locs ls hP hD hS hl)
theorem j_idiv (C : jC E G cc own Ts rm n0) {x y : Int32} (hd : decode cc pc = .ok (.idiv, 1)) (hne : ¬ y = 0) (k : jW E G K (pc + 1) lv (.int (x / y) :: stk)) : jW E G K (pc) lv (.int y :: .int x :: stk) := by
  obtain ⟨l, D, w, AA, tys, NW⟩ := E
  obtain ⟨p, e, R, s, m, args, below, meth, c, nL, Q⟩ := G
  obtain ⟨⟨hx, hb, hml, hown, hts⟩, hK, hN, hR, hn0, hO⟩ := C
  intro H locs ls hP hD hS hl
  exact lv_idiv hx hb hd hne (k H locs ls hP hD hS hl)
theorem j_irem_f (C : jC E G cc own Ts rm n0) {α : Type} {T : Option α} {u : α} {x y : Int32} (hd : decode cc pc = .ok (.irem, 1)) (hf : (if y = 0 then none else T) = some u) (k : T = some u → jW E G K (pc + 1) lv (.int (jrem x y) :: stk)) : jW E G K (pc) lv (.int y :: .int x :: stk) := by
  by_cases h : y = 0
  · rw [if_pos h] at hf
    cases hf
  · rw [if_neg h] at hf
    exact j_irem C hd h (k hf)
theorem j_fmul (C : jC E G cc own Ts rm n0) {α : Type} {T : Option α} {u : α} {x y : UInt32} (hd : decode cc pc = .ok (.fmul, 1)) (hf : (if nn (FP.fmul x y) = true then T else none) = some u) (k : T = some u → jW E G K (pc + 1) lv (.float (FP.fmul x y) :: stk)) : jW E G K (pc) lv (.float y :: .float x :: stk) := by
  by_cases h : nn (FP.fmul x y) = true
  · rw [if_pos h] at hf
    have k := k hf
    obtain ⟨l, D, w, AA, tys, NW⟩ := E
    obtain ⟨p, e, R, s, m, args, below, meth, c, nL, Q⟩ := G
    obtain ⟨⟨hx, hb, hml, hown, hts⟩, hK, hN, hR, hn0, hO⟩ := C
    intro H locs ls hP hD hS hl
    exact lv_fmul hx hb hd (nn_n h) (k H locs ls hP hD hS hl)
  · rw [if_neg h] at hf
    cases hf
theorem j_fadd (C : jC E G cc own Ts rm n0) {α : Type} {T : Option α} {u : α} {x y : UInt32} (hd : decode cc pc = .ok (.fadd, 1)) (hf : (if nn (FP.fadd x y) = true then T else none) = some u) (k : T = some u → jW E G K (pc + 1) lv (.float (FP.fadd x y) :: stk)) : jW E G K (pc) lv (.float y :: .float x :: stk) := by
  by_cases h : nn (FP.fadd x y) = true
  · rw [if_pos h] at hf
    have k := k hf
    obtain ⟨l, D, w, AA, tys, NW⟩ := E
    obtain ⟨p, e, R, s, m, args, below, meth, c, nL, Q⟩ := G
    obtain ⟨⟨hx, hb, hml, hown, hts⟩, hK, hN, hR, hn0, hO⟩ := C
    intro H locs ls hP hD hS hl
    exact lv_fadd hx hb hd (nn_n h) (k H locs ls hP hD hS hl)
  · rw [if_neg h] at hf
    cases hf
theorem j_fconst0 (C : jC E G cc own Ts rm n0) (hd : decode cc pc = .ok (.fconst 0, 1)) (k : jW E G K (pc + 1) lv (.float FP.fconst0 :: stk)) : jW E G K (pc) lv (stk) := by
  obtain ⟨l, D, w, AA, tys, NW⟩ := E
  obtain ⟨p, e, R, s, m, args, below, meth, c, nL, Q⟩ := G
  obtain ⟨⟨hx, hb, hml, hown, hts⟩, hK, hN, hR, hn0, hO⟩ := C
  intro H locs ls hP hD hS hl
  exact lv_fconst0 hx hb hd (k H locs ls hP hD hS hl)
theorem j_ldcf (C : jC E G cc own Ts rm n0) {index : Nat} {v : UInt32} (hw : Cond.constantFloat own index v ∈ Ts) (hd : decode cc pc = .ok (.ldc index, 2)) (k : jW E G K (pc + 2) lv (.float v :: stk)) : jW E G K (pc) lv (stk) := by
  obtain ⟨l, D, w, AA, tys, NW⟩ := E
  obtain ⟨p, e, R, s, m, args, below, meth, c, nL, Q⟩ := G
  obtain ⟨⟨hx, hb, hml, hown, hts⟩, hK, hN, hR, hn0, hO⟩ := C
  intro H locs ls hP hD hS hl
  exact lv_ldcf hx hb hown (hts _ hw) hd (k H locs ls hP hD hS hl)
theorem j_ldci (C : jC E G cc own Ts rm n0) {index : Nat} {v : Int32} (hw : Cond.constant own index v ∈ Ts) (hd : decode cc pc = .ok (.ldc_w index, 3)) (k : jW E G K (pc + 3) lv (.int v :: stk)) : jW E G K (pc) lv (stk) := by
  obtain ⟨l, D, w, AA, tys, NW⟩ := E
  obtain ⟨p, e, R, s, m, args, below, meth, c, nL, Q⟩ := G
  obtain ⟨⟨hx, hb, hml, hown, hts⟩, hK, hN, hR, hn0, hO⟩ := C
  intro H locs ls hP hD hS hl
  exact lv_ldcw hx hb hown (hts _ hw) hd (k H locs ls hP hD hS hl)
theorem j_dup (C : jC E G cc own Ts rm n0) {va : Value} (hd : decode cc pc = .ok (.dup, 1)) (hc : va.category = 1) (k : jW E G K (pc + 1) lv (va :: va :: stk)) : jW E G K (pc) lv (va :: stk) := by
  obtain ⟨l, D, w, AA, tys, NW⟩ := E
  obtain ⟨p, e, R, s, m, args, below, meth, c, nL, Q⟩ := G
  obtain ⟨⟨hx, hb, hml, hown, hts⟩, hK, hN, hR, hn0, hO⟩ := C
  intro H locs ls hP hD hS hl
  exact lv_dup hx hb hd hc (k H locs ls hP hD hS hl)
theorem j_dup2 (C : jC E G cc own Ts rm n0) {va vb : Value} (hd : decode cc pc = .ok (.dup2, 1)) (hc : va.category = 1) (hc2 : vb.category = 1) (k : jW E G K (pc + 1) lv (va :: vb :: va :: vb :: stk)) : jW E G K (pc) lv (va :: vb :: stk) := by
  obtain ⟨l, D, w, AA, tys, NW⟩ := E
  obtain ⟨p, e, R, s, m, args, below, meth, c, nL, Q⟩ := G
  obtain ⟨⟨hx, hb, hml, hown, hts⟩, hK, hN, hR, hn0, hO⟩ := C
  intro H locs ls hP hD hS hl
  exact lv_dup2_11 hx hb hd hc hc2 (k H locs ls hP hD hS hl)
theorem j_goto (C : jC E G cc own Ts rm n0) {off : Int} (tgt : Nat) (hd : decode cc pc = .ok (.goto off, 3)) (ht : (pc : Int) + off = (tgt : Int)) (k : jW E G K (tgt) lv (stk)) : jW E G K (pc) lv (stk) := by
  obtain ⟨l, D, w, AA, tys, NW⟩ := E
  obtain ⟨p, e, R, s, m, args, below, meth, c, nL, Q⟩ := G
  obtain ⟨⟨hx, hb, hml, hown, hts⟩, hK, hN, hR, hn0, hO⟩ := C
  intro H locs ls hP hD hS hl
  exact lv_goto hx hb hd ht (k H locs ls hP hD hS hl)
theorem j_null (C : jC E G cc own Ts rm n0) (hd : decode cc pc = .ok (.aconst_null, 1)) (k : jW E G K (pc + 1) lv (.null :: stk)) : jW E G K (pc) lv (stk) := by
  obtain ⟨l, D, w, AA, tys, NW⟩ := E
  obtain ⟨p, e, R, s, m, args, below, meth, c, nL, Q⟩ := G
  obtain ⟨⟨hx, hb, hml, hown, hts⟩, hK, hN, hR, hn0, hO⟩ := C
  intro H locs ls hP hD hS hl
  exact lv_null hx hb hd (k H locs ls hP hD hS hl)
theorem j_ifnull (C : jC E G cc own Ts rm n0) {x : Nat} {off : Int} (hd : decode cc pc = .ok (.ifnull off, 3)) (k : jW E G K (pc + 3) lv (stk)) : jW E G K (pc) lv (.ref x :: stk) := by
  obtain ⟨l, D, w, AA, tys, NW⟩ := E
  obtain ⟨p, e, R, s, m, args, below, meth, c, nL, Q⟩ := G
  obtain ⟨⟨hx, hb, hml, hown, hts⟩, hK, hN, hR, hn0, hO⟩ := C
  intro H locs ls hP hD hS hl
  exact lv_ifnull hx hb hd (k H locs ls hP hD hS hl)
theorem j_ifnullN (C : jC E G cc own Ts rm n0) {off : Int} (tgt : Nat) (hd : decode cc pc = .ok (.ifnull off, 3)) (ht : (pc : Int) + off = (tgt : Int)) (k : jW E G K (tgt) lv (stk)) : jW E G K (pc) lv (.null :: stk) := by
  obtain ⟨l, D, w, AA, tys, NW⟩ := E
  obtain ⟨p, e, R, s, m, args, below, meth, c, nL, Q⟩ := G
  obtain ⟨⟨hx, hb, hml, hown, hts⟩, hK, hN, hR, hn0, hO⟩ := C
  intro H locs ls hP hD hS hl
  exact lv_ifnullN hx hb hd ht (k H locs ls hP hD hS hl)
theorem j_ifnonnull (C : jC E G cc own Ts rm n0) {x : Nat} {off : Int} (tgt : Nat) (hd : decode cc pc = .ok (.ifnonnull off, 3)) (ht : (pc : Int) + off = (tgt : Int)) (k : jW E G K (tgt) lv (stk)) : jW E G K (pc) lv (.ref x :: stk) := by
  obtain ⟨l, D, w, AA, tys, NW⟩ := E
  obtain ⟨p, e, R, s, m, args, below, meth, c, nL, Q⟩ := G
  obtain ⟨⟨hx, hb, hml, hown, hts⟩, hK, hN, hR, hn0, hO⟩ := C
  intro H locs ls hP hD hS hl
  exact lv_ifnonnull hx hb hd ht (k H locs ls hP hD hS hl)
theorem j_ifnonnullN (C : jC E G cc own Ts rm n0) {off : Int} (hd : decode cc pc = .ok (.ifnonnull off, 3)) (k : jW E G K (pc + 3) lv (stk)) : jW E G K (pc) lv (.null :: stk) := by
  obtain ⟨l, D, w, AA, tys, NW⟩ := E
  obtain ⟨p, e, R, s, m, args, below, meth, c, nL, Q⟩ := G
  obtain ⟨⟨hx, hb, hml, hown, hts⟩, hK, hN, hR, hn0, hO⟩ := C
  intro H locs ls hP hD hS hl
  exact lv_ifnonnullN hx hb hd (k H locs ls hP hD hS hl)
theorem j_if_eq (C : jC E G cc own Ts rm n0) {α : Type} {X Y : Option α} {u : α} {x : Int32} {off : Int} (tgt : Nat) (hd : decode cc pc = .ok (.ifCond .eq off, 3)) (ht : (pc : Int) + off = (tgt : Int)) (hf : (if x = 0 then X else Y) = some u) (kX : X = some u → jW E G K (tgt) lv (stk)) (kY : Y = some u → jW E G K (pc + 3) lv (stk)) : jW E G K (pc) lv (.int x :: stk) := by
  obtain ⟨l, D, w, AA, tys, NW⟩ := E
  obtain ⟨p, e, R, s, m, args, below, meth, c, nL, Q⟩ := G
  obtain ⟨⟨hx, hb, hml, hown, hts⟩, hK, hN, hR, hn0, hO⟩ := C
  intro H locs ls hP hD hS hl
  exact lv_if_eq hx hb hd ht (fun h => kX (by rw [if_pos h] at hf; exact hf) H locs ls hP hD hS hl) (fun h => kY (by rw [if_neg h] at hf; exact hf) H locs ls hP hD hS hl)
theorem j_if_ne (C : jC E G cc own Ts rm n0) {α : Type} {X Y : Option α} {u : α} {x : Int32} {off : Int} (tgt : Nat) (hd : decode cc pc = .ok (.ifCond .ne off, 3)) (ht : (pc : Int) + off = (tgt : Int)) (hf : (if x = 0 then X else Y) = some u) (kX : X = some u → jW E G K (pc + 3) lv (stk)) (kY : Y = some u → jW E G K (tgt) lv (stk)) : jW E G K (pc) lv (.int x :: stk) := by
  obtain ⟨l, D, w, AA, tys, NW⟩ := E
  obtain ⟨p, e, R, s, m, args, below, meth, c, nL, Q⟩ := G
  obtain ⟨⟨hx, hb, hml, hown, hts⟩, hK, hN, hR, hn0, hO⟩ := C
  intro H locs ls hP hD hS hl
  exact lv_if_ne hx hb hd ht (fun h => kY (by rw [if_neg h] at hf; exact hf) H locs ls hP hD hS hl) (fun h => kX (by rw [if_pos h] at hf; exact hf) H locs ls hP hD hS hl)
theorem j_if_lt (C : jC E G cc own Ts rm n0) {α : Type} {X Y : Option α} {u : α} {x : Int32} {off : Int} (tgt : Nat) (hd : decode cc pc = .ok (.ifCond .lt off, 3)) (ht : (pc : Int) + off = (tgt : Int)) (hf : (if x < 0 then X else Y) = some u) (kX : X = some u → jW E G K (tgt) lv (stk)) (kY : Y = some u → jW E G K (pc + 3) lv (stk)) : jW E G K (pc) lv (.int x :: stk) := by
  obtain ⟨l, D, w, AA, tys, NW⟩ := E
  obtain ⟨p, e, R, s, m, args, below, meth, c, nL, Q⟩ := G
  obtain ⟨⟨hx, hb, hml, hown, hts⟩, hK, hN, hR, hn0, hO⟩ := C
  intro H locs ls hP hD hS hl
  exact lv_if_lt hx hb hd ht (fun h => kX (by rw [if_pos h] at hf; exact hf) H locs ls hP hD hS hl) (fun h => kY (by rw [if_neg h] at hf; exact hf) H locs ls hP hD hS hl)
theorem j_if_ge (C : jC E G cc own Ts rm n0) {α : Type} {X Y : Option α} {u : α} {x : Int32} {off : Int} (tgt : Nat) (hd : decode cc pc = .ok (.ifCond .ge off, 3)) (ht : (pc : Int) + off = (tgt : Int)) (hf : (if 0 ≤ x then X else Y) = some u) (kX : X = some u → jW E G K (tgt) lv (stk)) (kY : Y = some u → jW E G K (pc + 3) lv (stk)) : jW E G K (pc) lv (.int x :: stk) := by
  obtain ⟨l, D, w, AA, tys, NW⟩ := E
  obtain ⟨p, e, R, s, m, args, below, meth, c, nL, Q⟩ := G
  obtain ⟨⟨hx, hb, hml, hown, hts⟩, hK, hN, hR, hn0, hO⟩ := C
  intro H locs ls hP hD hS hl
  exact lv_if_ge hx hb hd ht (fun h => kX (by rw [if_pos h] at hf; exact hf) H locs ls hP hD hS hl) (fun h => kY (by rw [if_neg h] at hf; exact hf) H locs ls hP hD hS hl)
theorem j_if_gt (C : jC E G cc own Ts rm n0) {α : Type} {X Y : Option α} {u : α} {x : Int32} {off : Int} (tgt : Nat) (hd : decode cc pc = .ok (.ifCond .gt off, 3)) (ht : (pc : Int) + off = (tgt : Int)) (hf : (if 0 < x then X else Y) = some u) (kX : X = some u → jW E G K (tgt) lv (stk)) (kY : Y = some u → jW E G K (pc + 3) lv (stk)) : jW E G K (pc) lv (.int x :: stk) := by
  obtain ⟨l, D, w, AA, tys, NW⟩ := E
  obtain ⟨p, e, R, s, m, args, below, meth, c, nL, Q⟩ := G
  obtain ⟨⟨hx, hb, hml, hown, hts⟩, hK, hN, hR, hn0, hO⟩ := C
  intro H locs ls hP hD hS hl
  exact lv_if_gt hx hb hd ht (fun h => kX (by rw [if_pos h] at hf; exact hf) H locs ls hP hD hS hl) (fun h => kY (by rw [if_neg h] at hf; exact hf) H locs ls hP hD hS hl)
theorem j_if_le (C : jC E G cc own Ts rm n0) {α : Type} {X Y : Option α} {u : α} {x : Int32} {off : Int} (tgt : Nat) (hd : decode cc pc = .ok (.ifCond .le off, 3)) (ht : (pc : Int) + off = (tgt : Int)) (hf : (if x ≤ 0 then X else Y) = some u) (kX : X = some u → jW E G K (tgt) lv (stk)) (kY : Y = some u → jW E G K (pc + 3) lv (stk)) : jW E G K (pc) lv (.int x :: stk) := by
  obtain ⟨l, D, w, AA, tys, NW⟩ := E
  obtain ⟨p, e, R, s, m, args, below, meth, c, nL, Q⟩ := G
  obtain ⟨⟨hx, hb, hml, hown, hts⟩, hK, hN, hR, hn0, hO⟩ := C
  intro H locs ls hP hD hS hl
  exact lv_if_le hx hb hd ht (fun h => kX (by rw [if_pos h] at hf; exact hf) H locs ls hP hD hS hl) (fun h => kY (by rw [if_neg h] at hf; exact hf) H locs ls hP hD hS hl)
theorem j_icmp_eq (C : jC E G cc own Ts rm n0) {α : Type} {X Y : Option α} {u : α} {x y : Int32} {off : Int} (tgt : Nat) (hd : decode cc pc = .ok (.if_icmp .eq off, 3)) (ht : (pc : Int) + off = (tgt : Int)) (hf : (if x = y then X else Y) = some u) (kX : X = some u → jW E G K (tgt) lv (stk)) (kY : Y = some u → jW E G K (pc + 3) lv (stk)) : jW E G K (pc) lv (.int y :: .int x :: stk) := by
  obtain ⟨l, D, w, AA, tys, NW⟩ := E
  obtain ⟨p, e, R, s, m, args, below, meth, c, nL, Q⟩ := G
  obtain ⟨⟨hx, hb, hml, hown, hts⟩, hK, hN, hR, hn0, hO⟩ := C
  intro H locs ls hP hD hS hl
  exact lv_icmp_eq hx hb hd ht (fun h => kX (by rw [if_pos h] at hf; exact hf) H locs ls hP hD hS hl) (fun h => kY (by rw [if_neg h] at hf; exact hf) H locs ls hP hD hS hl)
theorem j_icmp_ne (C : jC E G cc own Ts rm n0) {α : Type} {X Y : Option α} {u : α} {x y : Int32} {off : Int} (tgt : Nat) (hd : decode cc pc = .ok (.if_icmp .ne off, 3)) (ht : (pc : Int) + off = (tgt : Int)) (hf : (if x = y then X else Y) = some u) (kX : X = some u → jW E G K (pc + 3) lv (stk)) (kY : Y = some u → jW E G K (tgt) lv (stk)) : jW E G K (pc) lv (.int y :: .int x :: stk) := by
  obtain ⟨l, D, w, AA, tys, NW⟩ := E
  obtain ⟨p, e, R, s, m, args, below, meth, c, nL, Q⟩ := G
  obtain ⟨⟨hx, hb, hml, hown, hts⟩, hK, hN, hR, hn0, hO⟩ := C
  intro H locs ls hP hD hS hl
  exact lv_icmp_ne hx hb hd ht (fun h => kY (by rw [if_neg h] at hf; exact hf) H locs ls hP hD hS hl) (fun h => kX (by rw [if_pos h] at hf; exact hf) H locs ls hP hD hS hl)
theorem j_icmp_lt (C : jC E G cc own Ts rm n0) {α : Type} {X Y : Option α} {u : α} {x y : Int32} {off : Int} (tgt : Nat) (hd : decode cc pc = .ok (.if_icmp .lt off, 3)) (ht : (pc : Int) + off = (tgt : Int)) (hf : (if x < y then X else Y) = some u) (kX : X = some u → jW E G K (tgt) lv (stk)) (kY : Y = some u → jW E G K (pc + 3) lv (stk)) : jW E G K (pc) lv (.int y :: .int x :: stk) := by
  obtain ⟨l, D, w, AA, tys, NW⟩ := E
  obtain ⟨p, e, R, s, m, args, below, meth, c, nL, Q⟩ := G
  obtain ⟨⟨hx, hb, hml, hown, hts⟩, hK, hN, hR, hn0, hO⟩ := C
  intro H locs ls hP hD hS hl
  exact lv_icmp_lt hx hb hd ht (fun h => kX (by rw [if_pos h] at hf; exact hf) H locs ls hP hD hS hl) (fun h => kY (by rw [if_neg h] at hf; exact hf) H locs ls hP hD hS hl)
theorem j_icmp_ge (C : jC E G cc own Ts rm n0) {α : Type} {X Y : Option α} {u : α} {x y : Int32} {off : Int} (tgt : Nat) (hd : decode cc pc = .ok (.if_icmp .ge off, 3)) (ht : (pc : Int) + off = (tgt : Int)) (hf : (if y ≤ x then X else Y) = some u) (kX : X = some u → jW E G K (tgt) lv (stk)) (kY : Y = some u → jW E G K (pc + 3) lv (stk)) : jW E G K (pc) lv (.int y :: .int x :: stk) := by
  obtain ⟨l, D, w, AA, tys, NW⟩ := E
  obtain ⟨p, e, R, s, m, args, below, meth, c, nL, Q⟩ := G
  obtain ⟨⟨hx, hb, hml, hown, hts⟩, hK, hN, hR, hn0, hO⟩ := C
  intro H locs ls hP hD hS hl
  exact lv_icmp_ge hx hb hd ht (fun h => kX (by rw [if_pos h] at hf; exact hf) H locs ls hP hD hS hl) (fun h => kY (by rw [if_neg h] at hf; exact hf) H locs ls hP hD hS hl)
theorem j_icmp_gt (C : jC E G cc own Ts rm n0) {α : Type} {X Y : Option α} {u : α} {x y : Int32} {off : Int} (tgt : Nat) (hd : decode cc pc = .ok (.if_icmp .gt off, 3)) (ht : (pc : Int) + off = (tgt : Int)) (hf : (if y < x then X else Y) = some u) (kX : X = some u → jW E G K (tgt) lv (stk)) (kY : Y = some u → jW E G K (pc + 3) lv (stk)) : jW E G K (pc) lv (.int y :: .int x :: stk) := by
  obtain ⟨l, D, w, AA, tys, NW⟩ := E
  obtain ⟨p, e, R, s, m, args, below, meth, c, nL, Q⟩ := G
  obtain ⟨⟨hx, hb, hml, hown, hts⟩, hK, hN, hR, hn0, hO⟩ := C
  intro H locs ls hP hD hS hl
  exact lv_icmp_gt hx hb hd ht (fun h => kX (by rw [if_pos h] at hf; exact hf) H locs ls hP hD hS hl) (fun h => kY (by rw [if_neg h] at hf; exact hf) H locs ls hP hD hS hl)
theorem j_icmp_le (C : jC E G cc own Ts rm n0) {α : Type} {X Y : Option α} {u : α} {x y : Int32} {off : Int} (tgt : Nat) (hd : decode cc pc = .ok (.if_icmp .le off, 3)) (ht : (pc : Int) + off = (tgt : Int)) (hf : (if x ≤ y then X else Y) = some u) (kX : X = some u → jW E G K (tgt) lv (stk)) (kY : Y = some u → jW E G K (pc + 3) lv (stk)) : jW E G K (pc) lv (.int y :: .int x :: stk) := by
  obtain ⟨l, D, w, AA, tys, NW⟩ := E
  obtain ⟨p, e, R, s, m, args, below, meth, c, nL, Q⟩ := G
  obtain ⟨⟨hx, hb, hml, hown, hts⟩, hK, hN, hR, hn0, hO⟩ := C
  intro H locs ls hP hD hS hl
  exact lv_icmp_le hx hb hd ht (fun h => kX (by rw [if_pos h] at hf; exact hf) H locs ls hP hD hS hl) (fun h => kY (by rw [if_neg h] at hf; exact hf) H locs ls hP hD hS hl)
theorem j_case {α : Type} {X Y : Option α} {u : α} {x a : Int32} {P : Prop} (hf : (if x = a then X else Y) = some u) (kX : x = a → X = some u → P) (kY : ¬ x = a → Y = some u → P) : P := by
  by_cases h : x = a
  · exact kX h (by rw [if_pos h] at hf; exact hf)
  · exact kY h (by rw [if_neg h] at hf; exact hf)
theorem j_chk {α : Type} {X : Option α} {u : α} {b : Bool} {P : Prop} (hf : (if b = true then X else none) = some u) (k : b = true → X = some u → P) : P := by
  by_cases h : b = true
  · exact k h (by rw [if_pos h] at hf; exact hf)
  · rw [if_neg h] at hf
    cases hf
theorem j_tabIn (C : jC E G cc own Ts rm n0) {dflt lo hi : Int} {offs : Array Int} {len : Nat} {x : Int32} {off : Int} (tgt : Nat) (hd : decode cc pc = .ok (.tableswitch dflt lo hi offs, len)) (h1 : ¬ x.toInt < lo) (h2 : ¬ hi < x.toInt) (ho : offs[(x.toInt - lo).toNat]? = some off) (ht : (pc : Int) + off = (tgt : Int)) (k : jW E G K (tgt) lv (stk)) : jW E G K (pc) lv (.int x :: stk) := by
  obtain ⟨l, D, w, AA, tys, NW⟩ := E
  obtain ⟨p, e, R, s, m, args, below, meth, c, nL, Q⟩ := G
  obtain ⟨⟨hx, hb, hml, hown, hts⟩, hK, hN, hR, hn0, hO⟩ := C
  intro H locs ls hP hD hS hl
  exact lv_tableIn hx hb hd h1 h2 ho ht (k H locs ls hP hD hS hl)
theorem j_tabOut (C : jC E G cc own Ts rm n0) {dflt lo hi : Int} {offs : Array Int} {len : Nat} {x : Int32} (tgt : Nat) (hd : decode cc pc = .ok (.tableswitch dflt lo hi offs, len)) (h : x.toInt < lo ∨ hi < x.toInt) (ht : (pc : Int) + dflt = (tgt : Int)) (k : jW E G K (tgt) lv (stk)) : jW E G K (pc) lv (.int x :: stk) := by
  obtain ⟨l, D, w, AA, tys, NW⟩ := E
  obtain ⟨p, e, R, s, m, args, below, meth, c, nL, Q⟩ := G
  obtain ⟨⟨hx, hb, hml, hown, hts⟩, hK, hN, hR, hn0, hO⟩ := C
  intro H locs ls hP hD hS hl
  exact lv_tableOut hx hb hd h ht (k H locs ls hP hD hS hl)
theorem j_get (C : jC E G cc own Ts rm n0) {ref Cn : String} {T : u_T} {N ci index : Nat} {fs : List Value} {a : Nat} {v : Value} (k0 : Nat) (hin : ∀ w ∈ u_ws Cn T N, w ∈ Ts) {q0 : Nat} (he : (E.2.2.1 K)[q0]? = some (a, .inr (ci, fs))) (hc : vwCl[ci]? = some (Cn, T, N)) (hk : k0 < N) (hw : Cond.fieldLink own index ref (T k0).2.1 (T k0).2.2.1 ∈ Ts) (hr : (T k0).1 = ref) (hv : fs[k0]? = some v) (hd : decode cc pc = .ok (.getfield index, 3)) (k : jW E G K (pc + 3) lv (v :: stk)) : jW E G K (pc) lv (.ref a :: stk) := by
  obtain ⟨l, D, w, AA, tys, NW⟩ := E
  obtain ⟨p, e, R, s, m, args, below, meth, c, nL, Q⟩ := G
  obtain ⟨⟨hx, hb, hml, hown, hts⟩, hK, hN, hR, hn0, hO⟩ := C
  intro H locs ls hP hD hS hl
  subst hr
  exact va_get hx hb hts hin hown hK hP q0 he hc k0 hk (hts _ hw) (fun _ h => h) hv hd (k H locs ls hP hD hS hl)
theorem j_getN (C : jC E G cc own Ts rm n0) {ref Cn : String} {T : u_T} {N ci index : Nat} {fs : List Value} {a : Nat} {v : Value} {host : String} (k0 : Nat) (hin : ∀ w ∈ u_ws Cn T N, w ∈ Ts) {q0 : Nat} (he : (E.2.2.1 K)[q0]? = some (a, .inr (ci, fs))) (hc : vwCl[ci]? = some (Cn, T, N)) (hk : k0 < N) (hw : ∀ U, E.2.2.2.2.2 U → va_Nw (Cond.fieldLinkNest own index ref (T k0).2.1 (T k0).2.2.1 host) U) (hr : (T k0).1 = ref) (hv : fs[k0]? = some v) (hd : decode cc pc = .ok (.getfield index, 3)) (k : jW E G K (pc + 3) lv (v :: stk)) : jW E G K (pc) lv (.ref a :: stk) := by
  obtain ⟨l, D, w, AA, tys, NW⟩ := E
  obtain ⟨p, e, R, s, m, args, below, meth, c, nL, Q⟩ := G
  obtain ⟨⟨hx, hb, hml, hown, hts⟩, hK, hN, hR, hn0, hO⟩ := C
  intro H locs ls hP hD hS hl
  subst hr
  exact va_getN hx hb hts hin hown hK hP q0 he hc k0 hk (va_Nw.use rfl (hw _ hN)) (fun _ h => h) hv hd (k H locs ls hP hD hS hl)
theorem j_put (C : jC E G cc own Ts rm n0) {α : Type} {f : Mem → Option α} {u : α} {ref Cn : String} {T : u_T} {N ci index : Nat} {fs : List Value} {a q0 : Nat} {x : Int32} {ty : FieldType} (k0 : Nat) (hin : ∀ w ∈ u_ws Cn T N, w ∈ Ts) (ty0 : Nat → FieldType) (hty : ∀ k, k < N → parseFieldDescriptor (T k).2.2.1 = some (ty0 k)) (hnm : ∀ a, a < N → ∀ b, b < N → a ≠ b → (T a).2.1 ≠ (T b).2.1) (he : (E.2.2.1 K)[q0]? = some (a, .inr (ci, fs))) (hset : (E.2.2.1 K).set q0 (a, .inr (ci, fs.set k0 (.int x))) = E.2.2.1 (ks K q0 k0 x)) (hc : vwCl[ci]? = some (Cn, T, N)) (hk : k0 < N) (hw : Cond.fieldLink own index ref (T k0).2.1 (T k0).2.2.1 ∈ Ts) (hr : (T k0).1 = ref) (hfin : (T k0).2.2.2 = false) (ht : parseFieldDescriptor (T k0).2.2.1 = some ty) (hn : narrow ty (.int x) = .int x) (hfit : fits ty (.int x) = true) (hlen : k0 < fs.length) (hd : decode cc pc = .ok (.putfield index, 3)) (hf : st K q0 k0 x f = some u) (k : ∀ K2, f K2 = some u → jW E G K2 (pc + 3) lv stk) : jW E G K (pc) lv (.int x :: .ref a :: stk) := by
  obtain ⟨l, D, w, AA, tys, NW⟩ := E
  obtain ⟨p, e, R, s, m, args, below, meth, c, nL, Q⟩ := G
  obtain ⟨⟨hx, hb, hml, hown, hts⟩, hK, hN, hR, hn0, hO⟩ := C
  intro H locs ls hP hD hS hl
  subst hr
  exact va_put hx hb hts hin ty0 hty hnm hown hK hP hD hS q0 he hc k0 hk (hts _ hw) (fun _ h => h) hfin ht hn hfit hlen hd (fun H1 locs1 p1 d1 s1 => k _ hf H1 locs1 ls (cP hset p1) (cD hset d1) s1 hl)
theorem j_putN (C : jC E G cc own Ts rm n0) {α : Type} {f : Mem → Option α} {u : α} {ref Cn host : String} {T : u_T} {N ci index : Nat} {fs : List Value} {a q0 : Nat} {x : Int32} {ty : FieldType} (k0 : Nat) (hin : ∀ w ∈ u_ws Cn T N, w ∈ Ts) (ty0 : Nat → FieldType) (hty : ∀ k, k < N → parseFieldDescriptor (T k).2.2.1 = some (ty0 k)) (hnm : ∀ a, a < N → ∀ b, b < N → a ≠ b → (T a).2.1 ≠ (T b).2.1) (he : (E.2.2.1 K)[q0]? = some (a, .inr (ci, fs))) (hset : (E.2.2.1 K).set q0 (a, .inr (ci, fs.set k0 (.int x))) = E.2.2.1 (ks K q0 k0 x)) (hc : vwCl[ci]? = some (Cn, T, N)) (hk : k0 < N) (hw : ∀ U, E.2.2.2.2.2 U → va_Nw (Cond.fieldLinkNest own index ref (T k0).2.1 (T k0).2.2.1 host) U) (hr : (T k0).1 = ref) (hfin : (T k0).2.2.2 = false) (ht : parseFieldDescriptor (T k0).2.2.1 = some ty) (hn : narrow ty (.int x) = .int x) (hfit : fits ty (.int x) = true) (hlen : k0 < fs.length) (hd : decode cc pc = .ok (.putfield index, 3)) (hf : st K q0 k0 x f = some u) (k : ∀ K2, f K2 = some u → jW E G K2 (pc + 3) lv stk) : jW E G K (pc) lv (.int x :: .ref a :: stk) := by
  obtain ⟨l, D, w, AA, tys, NW⟩ := E
  obtain ⟨p, e, R, s, m, args, below, meth, c, nL, Q⟩ := G
  obtain ⟨⟨hx, hb, hml, hown, hts⟩, hK, hN, hR, hn0, hO⟩ := C
  intro H locs ls hP hD hS hl
  subst hr
  exact va_putN hx hb hts hin ty0 hty hnm hown hK hP hD hS q0 he hc k0 hk (va_Nw.use rfl (hw _ hN)) (fun _ h => h) hfin ht hn hfit hlen hd (fun H1 locs1 p1 d1 s1 => k _ hf H1 locs1 ls (cP hset p1) (cD hset d1) s1 hl)
theorem j_iald (C : jC E G cc own Ts rm n0) {α : Type} {X : Option α} {u : α} {a q0 n : Nat} {cA : ClassId} {f : Nat → Int32} {i : Int32} (t0 : Nat) (he : (E.2.2.1 K)[q0]? = some (a, .inl (cA, n, .inl f))) (ht : E.2.2.2.2.1[t0]? = some (cA, .int)) (hd : decode cc pc = .ok (.iaload, 1)) (hf : (if inb i n = true then X else none) = some u) (k : X = some u → jW E G K (pc + 1) lv (.int (f (ix i)) :: stk)) : jW E G K (pc) lv (.int i :: .ref a :: stk) := by
  refine j_chk hf (fun hi hf => ?_)
  have k := k hf
  obtain ⟨l, D, w, AA, tys, NW⟩ := E
  obtain ⟨p, e, R, s, m, args, below, meth, c, nL, Q⟩ := G
  obtain ⟨⟨hx, hb, hml, hown, hts⟩, hK, hN, hR, hn0, hO⟩ := C
  intro H locs ls hP hD hS hl
  exact va_iald hx hb hK hP q0 t0 he ht (inb_in hi) hd (k H locs ls hP hD hS hl)
theorem j_zald (C : jC E G cc own Ts rm n0) {α : Type} {X : Option α} {u : α} {a q0 n : Nat} {cA : ClassId} {f : Nat → Int32} {i : Int32} (t0 : Nat) (he : (E.2.2.1 K)[q0]? = some (a, .inl (cA, n, .inl f))) (ht : E.2.2.2.2.1[t0]? = some (cA, .boolean)) (hd : decode cc pc = .ok (.baload, 1)) (hf : (if inb i n = true then X else none) = some u) (k : X = some u → jW E G K (pc + 1) lv (.int (f (ix i)) :: stk)) : jW E G K (pc) lv (.int i :: .ref a :: stk) := by
  refine j_chk hf (fun hi hf => ?_)
  have k := k hf
  obtain ⟨l, D, w, AA, tys, NW⟩ := E
  obtain ⟨p, e, R, s, m, args, below, meth, c, nL, Q⟩ := G
  obtain ⟨⟨hx, hb, hml, hown, hts⟩, hK, hN, hR, hn0, hO⟩ := C
  intro H locs ls hP hD hS hl
  exact va_zald hx hb hK hP q0 t0 he ht (inb_in hi) hd (k H locs ls hP hD hS hl)
theorem j_sald (C : jC E G cc own Ts rm n0) {α : Type} {X : Option α} {u : α} {a q0 n : Nat} {cA : ClassId} {f : Nat → Int32} {i : Int32} (t0 : Nat) (he : (E.2.2.1 K)[q0]? = some (a, .inl (cA, n, .inl f))) (ht : E.2.2.2.2.1[t0]? = some (cA, .short)) (hd : decode cc pc = .ok (.saload, 1)) (hf : (if inb i n = true then X else none) = some u) (k : X = some u → jW E G K (pc + 1) lv (.int (f (ix i)) :: stk)) : jW E G K (pc) lv (.int i :: .ref a :: stk) := by
  refine j_chk hf (fun hi hf => ?_)
  have k := k hf
  obtain ⟨l, D, w, AA, tys, NW⟩ := E
  obtain ⟨p, e, R, s, m, args, below, meth, c, nL, Q⟩ := G
  obtain ⟨⟨hx, hb, hml, hown, hts⟩, hK, hN, hR, hn0, hO⟩ := C
  intro H locs ls hP hD hS hl
  exact va_sald hx hb hK hP q0 t0 he ht (inb_in hi) hd (k H locs ls hP hD hS hl)
theorem j_iast (C : jC E G cc own Ts rm n0) {α : Type} {g : Mem → Option α} {u : α} {a q0 n : Nat} {cA : ClassId} {f : Nat → Int32} {i x : Int32} (t0 : Nat) (he : (E.2.2.1 K)[q0]? = some (a, .inl (cA, n, .inl f))) (hset : (E.2.2.1 K).set q0 (a, .inl (cA, n, .inl (upd f (ix i) x))) = E.2.2.1 (ks K q0 (ix i) x)) (ht : E.2.2.2.2.1[t0]? = some (cA, .int)) (hd : decode cc pc = .ok (.iastore, 1)) (hf : (if inb i n = true then st K q0 (ix i) x g else none) = some u) (k : ∀ K2, g K2 = some u → jW E G K2 (pc + 1) lv stk) : jW E G K (pc) lv (.int x :: .int i :: .ref a :: stk) := by
  refine j_chk hf (fun hi hf => ?_)
  obtain ⟨l, D, w, AA, tys, NW⟩ := E
  obtain ⟨p, e, R, s, m, args, below, meth, c, nL, Q⟩ := G
  obtain ⟨⟨hx, hb, hml, hown, hts⟩, hK, hN, hR, hn0, hO⟩ := C
  intro H locs ls hP hD hS hl
  exact va_iast hx hb hK hP hD hS q0 t0 he ht (inb_in hi) hd (fun H1 locs1 p1 d1 s1 => k _ hf H1 locs1 ls (cP hset p1) (cD hset d1) s1 hl)
theorem j_zast (C : jC E G cc own Ts rm n0) {α : Type} {g : Mem → Option α} {u : α} {a q0 n : Nat} {cA : ClassId} {f : Nat → Int32} {i x : Int32} (t0 : Nat) (he : (E.2.2.1 K)[q0]? = some (a, .inl (cA, n, .inl f))) (hset : (E.2.2.1 K).set q0 (a, .inl (cA, n, .inl (upd f (ix i) (vp_nar .boolean x)))) = E.2.2.1 (ks K q0 (ix i) (vp_nar .boolean x))) (ht : E.2.2.2.2.1[t0]? = some (cA, .boolean)) (hd : decode cc pc = .ok (.bastore, 1)) (hf : (if inb i n = true then st K q0 (ix i) (vp_nar .boolean x) g else none) = some u) (k : ∀ K2, g K2 = some u → jW E G K2 (pc + 1) lv stk) : jW E G K (pc) lv (.int x :: .int i :: .ref a :: stk) := by
  refine j_chk hf (fun hi hf => ?_)
  obtain ⟨l, D, w, AA, tys, NW⟩ := E
  obtain ⟨p, e, R, s, m, args, below, meth, c, nL, Q⟩ := G
  obtain ⟨⟨hx, hb, hml, hown, hts⟩, hK, hN, hR, hn0, hO⟩ := C
  intro H locs ls hP hD hS hl
  exact va_zast hx hb hK hP hD hS q0 t0 he ht (inb_in hi) hd (fun H1 locs1 p1 d1 s1 => k _ hf H1 locs1 ls (cP hset p1) (cD hset d1) s1 hl)
theorem j_sast (C : jC E G cc own Ts rm n0) {α : Type} {g : Mem → Option α} {u : α} {a q0 n : Nat} {cA : ClassId} {f : Nat → Int32} {i x : Int32} (t0 : Nat) (he : (E.2.2.1 K)[q0]? = some (a, .inl (cA, n, .inl f))) (hset : (E.2.2.1 K).set q0 (a, .inl (cA, n, .inl (upd f (ix i) (vp_nar .short x)))) = E.2.2.1 (ks K q0 (ix i) (vp_nar .short x))) (ht : E.2.2.2.2.1[t0]? = some (cA, .short)) (hd : decode cc pc = .ok (.sastore, 1)) (hf : (if inb i n = true then st K q0 (ix i) (vp_nar .short x) g else none) = some u) (k : ∀ K2, g K2 = some u → jW E G K2 (pc + 1) lv stk) : jW E G K (pc) lv (.int x :: .int i :: .ref a :: stk) := by
  refine j_chk hf (fun hi hf => ?_)
  obtain ⟨l, D, w, AA, tys, NW⟩ := E
  obtain ⟨p, e, R, s, m, args, below, meth, c, nL, Q⟩ := G
  obtain ⟨⟨hx, hb, hml, hown, hts⟩, hK, hN, hR, hn0, hO⟩ := C
  intro H locs ls hP hD hS hl
  exact va_sast hx hb hK hP hD hS q0 t0 he ht (inb_in hi) hd (fun H1 locs1 p1 d1 s1 => k _ hf H1 locs1 ls (cP hset p1) (cD hset d1) s1 hl)
theorem j_fald (C : jC E G cc own Ts rm n0) {α : Type} {X : Option α} {u : α} {a q0 n : Nat} {cA : ClassId} {f : Nat → UInt32} {i : Int32} (t0 : Nat) (he : (E.2.2.1 K)[q0]? = some (a, .inl (cA, n, .inr (.inr (.inl f))))) (ht : E.2.2.2.2.1[t0]? = some (cA, .float)) (hd : decode cc pc = .ok (.faload, 1)) (hf : (if inb i n = true then X else none) = some u) (k : X = some u → jW E G K (pc + 1) lv (.float (f (ix i)) :: stk)) : jW E G K (pc) lv (.int i :: .ref a :: stk) := by
  refine j_chk hf (fun hi hf => ?_)
  have k := k hf
  obtain ⟨l, D, w, AA, tys, NW⟩ := E
  obtain ⟨p, e, R, s, m, args, below, meth, c, nL, Q⟩ := G
  obtain ⟨⟨hx, hb, hml, hown, hts⟩, hK, hN, hR, hn0, hO⟩ := C
  intro H locs ls hP hD hS hl
  exact va_fald hx hb hK hP q0 t0 he ht (inb_in hi) hd (k H locs ls hP hD hS hl)
theorem j_fast (C : jC E G cc own Ts rm n0) {α : Type} {g : Mem → Option α} {u : α} {a q0 n : Nat} {cA : ClassId} {f : Nat → UInt32} {i : Int32} {x : UInt32} (t0 : Nat) (he : (E.2.2.1 K)[q0]? = some (a, .inl (cA, n, .inr (.inr (.inl f))))) (hset : (E.2.2.1 K).set q0 (a, .inl (cA, n, .inr (.inr (.inl (vf_upd f (ix i) x))))) = E.2.2.1 (ks K q0 (ix i) x.toInt32)) (ht : E.2.2.2.2.1[t0]? = some (cA, .float)) (hd : decode cc pc = .ok (.fastore, 1)) (hf : (if inb i n = true then st K q0 (ix i) x.toInt32 g else none) = some u) (k : ∀ K2, g K2 = some u → jW E G K2 (pc + 1) lv stk) : jW E G K (pc) lv (.float x :: .int i :: .ref a :: stk) := by
  refine j_chk hf (fun hi hf => ?_)
  obtain ⟨l, D, w, AA, tys, NW⟩ := E
  obtain ⟨p, e, R, s, m, args, below, meth, c, nL, Q⟩ := G
  obtain ⟨⟨hx, hb, hml, hown, hts⟩, hK, hN, hR, hn0, hO⟩ := C
  intro H locs ls hP hD hS hl
  exact va_fast hx hb hK hP hD hS q0 t0 he ht (inb_in hi) hd (fun H1 locs1 p1 d1 s1 => k _ hf H1 locs1 ls (cP hset p1) (cD hset d1) s1 hl)
theorem j_alen (C : jC E G cc own Ts rm n0) {a q0 : Nat} {cA : ClassId} {y : vp_A} {ty : FieldType} {v : Int32} (t0 : Nat) (he : (E.2.2.1 K)[q0]? = some (a, .inl (cA, y))) (ht : E.2.2.2.2.1[t0]? = some (cA, ty)) (hv : Int32.ofNat y.1 = v) (hd : decode cc pc = .ok (.arraylength, 1)) (k : jW E G K (pc + 1) lv (.int v :: stk)) : jW E G K (pc) lv (.ref a :: stk) := by
  obtain ⟨l, D, w, AA, tys, NW⟩ := E
  obtain ⟨p, e, R, s, m, args, below, meth, c, nL, Q⟩ := G
  obtain ⟨⟨hx, hb, hml, hown, hts⟩, hK, hN, hR, hn0, hO⟩ := C
  intro H locs ls hP hD hS hl
  exact va_alen hx hb hK hP q0 t0 he ht hv hd (k H locs ls hP hD hS hl)
/-- a method's start: the arguments, the world's memory K -/
def jP (E : jE) (As : List Value) (K : Mem) (sz : Nat) : Array Value → State → Prop := va_Pc As (fun U => U.heap.size = sz ∧ va_P E.2.1 vwCl (E.2.2.1 K) U.heap ∧ va_K E.2.1 vwCl E.2.2.2.2.1 U ∧ va_D (E.2.2.2.1 sz) (E.2.2.1 K) ∧ E.2.2.2.2.2 U)
/-- the world behind it -/
def jB (E : jE) (sz : Nat) (K : Mem) (t : State) : Prop := va_P E.2.1 vwCl (E.2.2.1 K) t.heap ∧ va_D (E.2.2.2.1 sz) (E.2.2.1 K)
/-- answers r1, memory K1 behind it -/
def cI (E : jE) (y : MethodName) (ws : List Cond) (rm : Room) (As : List Value) (K : Mem) (r1 : Int32) (K1 : Mem) : Prop := ∀ sz, Met E.1 y ws rm (jP E As K sz) (va_Qi (fun r u => r = r1 ∧ u = K1) (jB E sz) (E.2.2.2.1 sz)) 0 0 (E.2.2.2.1 sz)
def cF (E : jE) (y : MethodName) (ws : List Cond) (rm : Room) (As : List Value) (K : Mem) (r1 : UInt32) (K1 : Mem) : Prop := ∀ sz, Met E.1 y ws rm (jP E As K sz) (va_Qf (fun r u => r = r1 ∧ u = K1) (jB E sz) (E.2.2.2.1 sz)) 0 0 (E.2.2.2.1 sz)
def cV (E : jE) (y : MethodName) (ws : List Cond) (rm : Room) (As : List Value) (K : Mem) (K1 : Mem) : Prop := ∀ sz, Met E.1 y ws rm (jP E As K sz) (va_Qv (fun u => u = K1) (jB E sz) (E.2.2.2.1 sz)) 0 0 (E.2.2.2.1 sz)
/-- answers a reference, or null -/
def cQ (E : jE) (y : MethodName) (ws : List Cond) (rm : Room) (As : List Value) (K : Mem) (r1 : Option Nat) (K1 : Mem) : Prop := ∀ sz, Met E.1 y ws rm (jP E As K sz) (va_Qq (fun r u => r = r1 ∧ u = K1) (jB E sz) (E.2.2.2.1 sz)) 0 0 (E.2.2.2.1 sz)
theorem jP_blind {E : jE} (hO : jOK E) {As : List Value} {K : Mem} {sz : Nat} : FrameBlind (jP E As K sz) := by
  obtain ⟨l, D, w, AA, tys, NW⟩ := E
  intro a U g mk q
  obtain ⟨q0, q1, qP, qK, qD, qN⟩ := q
  exact ⟨q0, q1, qP, va_K.moved (u := U) (U := U.calling g mk a) (Vm.Alike.refl U.vm) qK, qD, hO.2.2.2.2 U _ rfl qN⟩
theorem jP_of {l : Launch} {D : va_G} {w : Mem → va_W} {AA : Nat → Nat → Prop} {tys : List (ClassId × FieldType)} {NW : State → Prop} (hO : jOK (l, D, w, AA, tys, NW)) {s : State} {H : Heap} {K : Mem} {X : Nat → Prop} {As : List Value} (hP : va_P D vwCl (w K) H) (hD : va_D X (w K)) (hK : va_K D vwCl tys s) (hN : NW s) : ∀ U : State, U.heap = H → s.WarmedH U.vm → jP (l, D, w, AA, tys, NW) As K H.size As.toArray U := fun U hU hW => ⟨rfl, by rw [hU], by rw [hU]; exact hP, va_K.moved hW.alike hK, hO.2.2.1 _ _ _ _ hD, hO.2.2.2.1 _ _ hW hN⟩
section Ent
variable {y : MethodName} {ws ws' : List Cond} {As : List Value} {maxL : Nat} {K1 : Mem}
/-- the entry of a method that answers an int: what is left is the walk; 'ret' ends it -/
theorem j_entI (hO : jOK E) {r1 : Int32} {ty : FieldType} (hty : ty = .int ∨ ty = .boolean) (hy : plainName y.cls = true) (hw : ws = Cond.code y cc maxL (some ty) :: ws') (hlen : (lg_sl As).length ≤ maxL)
    (body : ∀ G : jG, jC E G cc y.cls ws rm maxL → (∀ (pc : Nat) (lv : List (Nat × Value)), decode cc pc = .ok (.ireturn, 1) → (ty = FieldType.boolean → bb r1 = true) → jW E G K1 pc lv [.int r1]) → jW E G K 0 (lv_args 0 As) []) : cI E y ws rm As K r1 K1 := by
  obtain ⟨l, D, w, AA, tys, NW⟩ := E
  intro sz
  refine Met.ofW (cc := cc) (maxL := maxL) (ret := some ty) hy hw ?_
  intro p e s m args below meth c s₁ B hml hv
  obtain ⟨rfl, hsz, hP, hK, hD, hN⟩ := hv
  subst hsz
  have hx := B.exec
  have hb := B.bytes
  have hr := B.returns
  have hts := atoms_spec (ws := ws) B.pre
  have hown : s.vm.findClass y.cls = some m.cls := findClass_of_methodNamed B.named
  have hlocks := B.notSynchronized
  have hl := lv_entry As (n := maxL) hlen
  rw [lg_entry_eq]
  refine body (p, e, rm, s, m, As.toArray, below, meth, c, maxL, MQ below (va_Qi (fun r u => r = r1 ∧ u = K1) (jB (l, D, w, AA, tys, NW) s.heap.size) (AA s.heap.size)) As.toArray s 0 0 (AA s.heap.size)) ⟨⟨hx, hb, hml, hown, hts⟩, hK, hN, rfl, rfl, hO⟩ ?_ s.heap [] _ hP hD va_S.rf hl
  intro pc lv hd hbb H locs ls hP hD hS hl
  have hq : ∀ t : State, t.heap = H → s.WarmedH t.vm → va_Qi (fun r u => r = r1 ∧ u = K1) (jB (l, D, w, AA, tys, NW) s.heap.size) (AA s.heap.size) As.toArray s (.returned (some (.int r1))) t := fun t ht hW => ⟨⟨r1, K1, rfl, ⟨rfl, rfl⟩, by rw [ht]; exact hP, hD⟩, hS.F ht⟩
  rcases hty with rfl | rfl
  · exact W.iret hx hb hr hq hS.2.2 hd
  · exact W.zret hx hb hr (bb_nar (hbb rfl)) hq hS.2.2 hd
theorem j_entIF (hO : jOK E) {r1 : Int32} {ty : FieldType} (hty : ty = .int ∨ ty = .boolean) (hy : plainFor y = true) (hw : ws = Cond.code y cc maxL (some ty) :: ws') (hlen : (lg_sl As).length ≤ maxL)
    (body : ∀ G : jG, jC E G cc y.cls ws rm maxL → (∀ (pc : Nat) (lv : List (Nat × Value)), decode cc pc = .ok (.ireturn, 1) → (ty = FieldType.boolean → bb r1 = true) → jW E G K1 pc lv [.int r1]) → jW E G K 0 (lv_args 0 As) []) : cI E y ws rm As K r1 K1 := by
  obtain ⟨l, D, w, AA, tys, NW⟩ := E
  intro sz
  refine va_MetF (cc := cc) (maxL := maxL) (ret := some ty) hy hw ?_
  intro p e s m args below meth c s₁ B hml hv
  obtain ⟨rfl, hsz, hP, hK, hD, hN⟩ := hv
  subst hsz
  have hx := B.exec
  have hb := B.bytes
  have hr := B.returns
  have hts := atoms_spec (ws := ws) B.pre
  have hown : s.vm.findClass y.cls = some m.cls := findClass_of_methodNamed B.named
  have hlocks := B.notSynchronized
  have hl := lv_entry As (n := maxL) hlen
  rw [lg_entry_eq]
  refine body (p, e, rm, s, m, As.toArray, below, meth, c, maxL, MQ below (va_Qi (fun r u => r = r1 ∧ u = K1) (jB (l, D, w, AA, tys, NW) s.heap.size) (AA s.heap.size)) As.toArray s 0 0 (AA s.heap.size)) ⟨⟨hx, hb, hml, hown, hts⟩, hK, hN, rfl, rfl, hO⟩ ?_ s.heap [] _ hP hD va_S.rf hl
  intro pc lv hd hbb H locs ls hP hD hS hl
  have hq : ∀ t : State, t.heap = H → s.WarmedH t.vm → va_Qi (fun r u => r = r1 ∧ u = K1) (jB (l, D, w, AA, tys, NW) s.heap.size) (AA s.heap.size) As.toArray s (.returned (some (.int r1))) t := fun t ht hW => ⟨⟨r1, K1, rfl, ⟨rfl, rfl⟩, by rw [ht]; exact hP, hD⟩, hS.F ht⟩
  rcases hty with rfl | rfl
  · exact W.iret hx hb hr hq hS.2.2 hd
  · exact W.zret hx hb hr (bb_nar (hbb rfl)) hq hS.2.2 hd
theorem j_entV (hO : jOK E) (hy : plainName y.cls = true) (hw : ws = Cond.code y cc maxL none :: ws') (hlen : (lg_sl As).length ≤ maxL)
    (body : ∀ G : jG, jC E G cc y.cls ws rm maxL → (∀ (pc : Nat) (lv : List (Nat × Value)), decode cc pc = .ok (.return_, 1) → jW E G K1 pc lv []) → jW E G K 0 (lv_args 0 As) []) : cV E y ws rm As K K1 := by
  obtain ⟨l, D, w, AA, tys, NW⟩ := E
  intro sz
  refine Met.ofW (cc := cc) (maxL := maxL) (ret := none) hy hw ?_
  intro p e s m args below meth c s₁ B hml hv
  obtain ⟨rfl, hsz, hP, hK, hD, hN⟩ := hv
  subst hsz
  have hx := B.exec
  have hb := B.bytes
  have hr := B.returns
  have hts := atoms_spec (ws := ws) B.pre
  have hown : s.vm.findClass y.cls = some m.cls := findClass_of_methodNamed B.named
  have hlocks := B.notSynchronized
  have hl := lv_entry As (n := maxL) hlen
  rw [lg_entry_eq]
  refine body (p, e, rm, s, m, As.toArray, below, meth, c, maxL, MQ below (va_Qv (fun u => u = K1) (jB (l, D, w, AA, tys, NW) s.heap.size) (AA s.heap.size)) As.toArray s 0 0 (AA s.heap.size)) ⟨⟨hx, hb, hml, hown, hts⟩, hK, hN, rfl, rfl, hO⟩ ?_ s.heap [] _ hP hD va_S.rf hl
  intro pc lv hd H locs ls hP hD hS hl
  exact W.vret hx hb hr (fun t ht hW => ⟨⟨K1, rfl, rfl, by rw [ht]; exact hP, hD⟩, hS.F ht⟩) hS.2.2 hd
theorem j_entF (hO : jOK E) {r1 : UInt32} (hy : plainName y.cls = true) (hw : ws = Cond.code y cc maxL (some .float) :: ws') (hlen : (lg_sl As).length ≤ maxL)
    (body : ∀ G : jG, jC E G cc y.cls ws rm maxL → (∀ (pc : Nat) (lv : List (Nat × Value)), decode cc pc = .ok (.freturn, 1) → jW E G K1 pc lv [.float r1]) → jW E G K 0 (lv_args 0 As) []) : cF E y ws rm As K r1 K1 := by
  obtain ⟨l, D, w, AA, tys, NW⟩ := E
  intro sz
  refine Met.ofW (cc := cc) (maxL := maxL) (ret := some .float) hy hw ?_
  intro p e s m args below meth c s₁ B hml hv
  obtain ⟨rfl, hsz, hP, hK, hD, hN⟩ := hv
  subst hsz
  have hx := B.exec
  have hb := B.bytes
  have hr := B.returns
  have hts := atoms_spec (ws := ws) B.pre
  have hown : s.vm.findClass y.cls = some m.cls := findClass_of_methodNamed B.named
  have hlocks := B.notSynchronized
  have hl := lv_entry As (n := maxL) hlen
  rw [lg_entry_eq]
  refine body (p, e, rm, s, m, As.toArray, below, meth, c, maxL, MQ below (va_Qf (fun r u => r = r1 ∧ u = K1) (jB (l, D, w, AA, tys, NW) s.heap.size) (AA s.heap.size)) As.toArray s 0 0 (AA s.heap.size)) ⟨⟨hx, hb, hml, hown, hts⟩, hK, hN, rfl, rfl, hO⟩ ?_ s.heap [] _ hP hD va_S.rf hl
  intro pc lv hd H locs ls hP hD hS hl
  exact W.fret hx hb hr (fun t ht hW => ⟨⟨r1, K1, rfl, ⟨rfl, rfl⟩, by rw [ht]; exact hP, hD⟩, hS.F ht⟩) hS.2.2 hd hlocks
theorem j_entQ (hO : jOK E) {r1 : Option Nat} {cn : String} (hy : plainName y.cls = true) (hw : ws = Cond.code y cc maxL (some (.object cn)) :: ws') (hlen : (lg_sl As).length ≤ maxL)
    (body : ∀ G : jG, jC E G cc y.cls ws rm maxL → (∀ (pc : Nat) (lv : List (Nat × Value)), decode cc pc = .ok (.areturn, 1) → jW E G K1 pc lv [va_rf r1]) → jW E G K 0 (lv_args 0 As) []) : cQ E y ws rm As K r1 K1 := by
  obtain ⟨l, D, w, AA, tys, NW⟩ := E
  intro sz
  refine Met.ofW (cc := cc) (maxL := maxL) (ret := some (.object cn)) hy hw ?_
  intro p e s m args below meth c s₁ B hml hv
  obtain ⟨rfl, hsz, hP, hK, hD, hN⟩ := hv
  subst hsz
  have hx := B.exec
  have hb := B.bytes
  have hr := B.returns
  have hts := atoms_spec (ws := ws) B.pre
  have hown : s.vm.findClass y.cls = some m.cls := findClass_of_methodNamed B.named
  have hlocks := B.notSynchronized
  have hl := lv_entry As (n := maxL) hlen
  rw [lg_entry_eq]
  refine body (p, e, rm, s, m, As.toArray, below, meth, c, maxL, MQ below (va_Qq (fun r u => r = r1 ∧ u = K1) (jB (l, D, w, AA, tys, NW) s.heap.size) (AA s.heap.size)) As.toArray s 0 0 (AA s.heap.size)) ⟨⟨hx, hb, hml, hown, hts⟩, hK, hN, rfl, rfl, hO⟩ ?_ s.heap [] _ hP hD va_S.rf hl
  intro pc lv hd H locs ls hP hD hS hl
  exact W.aret hx hb hr (Or.inl ⟨_, rfl⟩) (by cases r1 <;> simp [va_rf]) (fun t ht hW => ⟨⟨r1, K1, rfl, ⟨rfl, rfl⟩, by rw [ht]; exact hP, hD⟩, hS.F ht⟩) hS.2.2 hd
end Ent
theorem j_cVI (C : jC E G cc own Ts rm n0) {y : MethodName} {bytes : ByteArray} {maxL n index : Nat} {ret : Option FieldType} {ws ws' : List Cond} {rm1 : Room} {K1 : Mem} {r1 : Int32} {a q0 ci : Nat} {Cn : String} {TT : u_T} {NN : Nat} {fs : List Value} (As : List Value) (hg : GoodIn Ts (wsV own index Cn y ws)) (hw : ws = Cond.code y bytes maxL ret :: ws') (hdd : y.cls = Cn ∧ y.cls ≠ "java/lang/invoke/MethodHandle" ∧ y.cls ≠ "java/lang/invoke/VarHandle" ∧ (parseMethodDescriptor y.desc).map (fun d => d.parameters.length) = some n) (hR : (rm1.cells = 0 ∧ rm1.slots = 0) ∧ rm1.frames + 1 ≤ rm.frames ∧ 8 + (maxL + 11) + rm1.locals ≤ rm.locals) (hn : As.length = n) (he : (E.2.2.1 K)[q0]? = some (a, .inr (ci, fs))) (hc : vwCl[ci]? = some (Cn, TT, NN)) (hM : cI E y ws rm1 (.ref a :: As) K r1 K1) (hd : decode cc pc = .ok (.invokevirtual index, 3)) {stk0 : List Value} (hst : stk0 = As.reverse ++ .ref a :: stk) (hcat : (stk.map fun v => v.category).sum ≤ 8) (k : jW E G K1 (pc + 3) lv (.int r1 :: stk)) : jW E G K pc lv stk0 := by
  obtain ⟨l, D, w, AA, tys, NW⟩ := E
  obtain ⟨p, e, R, s, m, args, below, meth, c, nL, Q⟩ := G
  obtain ⟨⟨hx, hb, hml, hown, hts⟩, hK, hN, hR0, hn0, hO⟩ := C
  intro H locs ls hP hD hS hl
  subst hst
  subst hR0
  refine va_calli (va_runV (As := As) (rest := stk) ⟨hx, hb, hml, hown, hts⟩ (hM H.size) (cwV n hts hg hw hR.1.1 hR.1.2 hdd hR.2) ⟨jP_blind hO, va_recv hK hP hc he, jP_of hO hP hD hK hN⟩ rfl hn (hl.1) rfl (lv_room hcat) hd ⟨Nat.zero_le _, Nat.zero_le _⟩) hS (fun q _ h => hO.2.1 _ _ q hS.1 h) (fun q h => hO.2.1 _ _ q hS.1 h) (fun r u t H1 locs1 ht hvm hw hB hz1 hk1 hS1 => ?_)
  obtain ⟨rfl, rfl⟩ := hw
  exact k H1 locs1 ls (by rw [← ht]; exact hB.1) (hO.2.2.1 _ _ _ _ hB.2) hS1 hl
theorem j_cSI (C : jC E G cc own Ts rm n0) {y : MethodName} {bytes : ByteArray} {maxL n index : Nat} {ret : Option FieldType} {ws ws' : List Cond} {rm1 : Room} {K1 : Mem} {r1 : Int32} (As : List Value) (hg : GoodIn Ts (va_wsS own index y ws)) (hw : ws = Cond.code y bytes maxL ret :: ws') (hdd : y.cls ≠ "java/lang/invoke/MethodHandle" ∧ y.cls ≠ "java/lang/invoke/VarHandle" ∧ (parseMethodDescriptor y.desc).map (fun d => d.parameters.length) = some n) (hR : (rm1.cells = 0 ∧ rm1.slots = 0) ∧ rm1.frames + 1 ≤ rm.frames ∧ 8 + (maxL + 11) + rm1.locals ≤ rm.locals) (hn : As.length = n) (hM : cI E y ws rm1 As K r1 K1) (hd : decode cc pc = .ok (.invokestatic index, 3)) {stk0 : List Value} (hst : stk0 = As.reverse ++ stk) (hcat : (stk.map fun v => v.category).sum ≤ 8) (k : jW E G K1 (pc + 3) lv (.int r1 :: stk)) : jW E G K pc lv stk0 := by
  obtain ⟨l, D, w, AA, tys, NW⟩ := E
  obtain ⟨p, e, R, s, m, args, below, meth, c, nL, Q⟩ := G
  obtain ⟨⟨hx, hb, hml, hown, hts⟩, hK, hN, hR0, hn0, hO⟩ := C
  intro H locs ls hP hD hS hl
  subst hst
  subst hR0
  refine va_calli (va_runS (As := As) (rest := stk) ⟨hx, hb, hml, hown, hts⟩ (hM H.size) (va_cwS n hts hg hw hR.1.1 hR.1.2 hdd hR.2) ⟨jP_blind hO, jP_of hO hP hD hK hN⟩ rfl hn (hl.1) rfl (lv_room hcat) hd ⟨Nat.zero_le _, Nat.zero_le _⟩) hS (fun q _ h => hO.2.1 _ _ q hS.1 h) (fun q h => hO.2.1 _ _ q hS.1 h) (fun r u t H1 locs1 ht hvm hw hB hz1 hk1 hS1 => ?_)
  obtain ⟨rfl, rfl⟩ := hw
  exact k H1 locs1 ls (by rw [← ht]; exact hB.1) (hO.2.2.1 _ _ _ _ hB.2) hS1 hl
theorem j_cNI (C : jC E G cc own Ts rm n0) {y : MethodName} {bytes : ByteArray} {maxL n index : Nat} {ret : Option FieldType} {ws ws' : List Cond} {rm1 : Room} {K1 : Mem} {r1 : Int32} {host : String} (As : List Value) (hg : GoodIn Ts ws) (hw : ws = Cond.code y bytes maxL ret :: ws') (hnw : ∀ U, E.2.2.2.2.2 U → va_Nw (.methodLinkNest own index y host) U) (hini : Cond.initialized y.cls ∈ Ts) (hsta : Cond.static y ∈ Ts) (hdd : y.cls ≠ "java/lang/invoke/MethodHandle" ∧ y.cls ≠ "java/lang/invoke/VarHandle" ∧ (parseMethodDescriptor y.desc).map (fun d => d.parameters.length) = some n) (hR : (rm1.cells = 0 ∧ rm1.slots = 0) ∧ rm1.frames + 1 ≤ rm.frames ∧ 8 + (maxL + 11) + rm1.locals ≤ rm.locals) (hn : As.length = n) (hM : cI E y ws rm1 As K r1 K1) (hd : decode cc pc = .ok (.invokestatic index, 3)) {stk0 : List Value} (hst : stk0 = As.reverse ++ stk) (hcat : (stk.map fun v => v.category).sum ≤ 8) (k : jW E G K1 (pc + 3) lv (.int r1 :: stk)) : jW E G K pc lv stk0 := by
  obtain ⟨l, D, w, AA, tys, NW⟩ := E
  obtain ⟨p, e, R, s, m, args, below, meth, c, nL, Q⟩ := G
  obtain ⟨⟨hx, hb, hml, hown, hts⟩, hK, hN, hR0, hn0, hO⟩ := C
  intro H locs ls hP hD hS hl
  subst hst
  subst hR0
  refine va_calli (va_runSN (host := host) (As := As) (rest := stk) ⟨hx, hb, hml, hown, hts⟩ (hM H.size) ⟨va_cnB n hts hg hw hR.1.1 hR.1.2 (hnw _ hN) (hts _ hini) hdd hR.2, hts _ hsta, trivial⟩ ⟨jP_blind hO, jP_of hO hP hD hK hN⟩ rfl hn (hl.1) rfl (lv_room hcat) hd ⟨Nat.zero_le _, Nat.zero_le _⟩) hS (fun q _ h => hO.2.1 _ _ q hS.1 h) (fun q h => hO.2.1 _ _ q hS.1 h) (fun r u t H1 locs1 ht hvm hw hB hz1 hk1 hS1 => ?_)
  obtain ⟨rfl, rfl⟩ := hw
  exact k H1 locs1 ls (by rw [← ht]; exact hB.1) (hO.2.2.1 _ _ _ _ hB.2) hS1 hl
theorem j_cVF (C : jC E G cc own Ts rm n0) {y : MethodName} {bytes : ByteArray} {maxL n index : Nat} {ret : Option FieldType} {ws ws' : List Cond} {rm1 : Room} {K1 : Mem} {r1 : UInt32} {a q0 ci : Nat} {Cn : String} {TT : u_T} {NN : Nat} {fs : List Value} (As : List Value) (hg : GoodIn Ts (wsV own index Cn y ws)) (hw : ws = Cond.code y bytes maxL ret :: ws') (hdd : y.cls = Cn ∧ y.cls ≠ "java/lang/invoke/MethodHandle" ∧ y.cls ≠ "java/lang/invoke/VarHandle" ∧ (parseMethodDescriptor y.desc).map (fun d => d.parameters.length) = some n) (hR : (rm1.cells = 0 ∧ rm1.slots = 0) ∧ rm1.frames + 1 ≤ rm.frames ∧ 8 + (maxL + 11) + rm1.locals ≤ rm.locals) (hn : As.length = n) (he : (E.2.2.1 K)[q0]? = some (a, .inr (ci, fs))) (hc : vwCl[ci]? = some (Cn, TT, NN)) (hM : cF E y ws rm1 (.ref a :: As) K r1 K1) (hd : decode cc pc = .ok (.invokevirtual index, 3)) {stk0 : List Value} (hst : stk0 = As.reverse ++ .ref a :: stk) (hcat : (stk.map fun v => v.category).sum ≤ 8) (k : jW E G K1 (pc + 3) lv (.float r1 :: stk)) : jW E G K pc lv stk0 := by
  obtain ⟨l, D, w, AA, tys, NW⟩ := E
  obtain ⟨p, e, R, s, m, args, below, meth, c, nL, Q⟩ := G
  obtain ⟨⟨hx, hb, hml, hown, hts⟩, hK, hN, hR0, hn0, hO⟩ := C
  intro H locs ls hP hD hS hl
  subst hst
  subst hR0
  refine va_callf (va_runV (As := As) (rest := stk) ⟨hx, hb, hml, hown, hts⟩ (hM H.size) (cwV n hts hg hw hR.1.1 hR.1.2 hdd hR.2) ⟨jP_blind hO, va_recv hK hP hc he, jP_of hO hP hD hK hN⟩ rfl hn (hl.1) rfl (lv_room hcat) hd ⟨Nat.zero_le _, Nat.zero_le _⟩) hS (fun q _ h => hO.2.1 _ _ q hS.1 h) (fun q h => hO.2.1 _ _ q hS.1 h) (fun r u t H1 locs1 ht hvm hw hB hz1 hk1 hS1 => ?_)
  obtain ⟨rfl, rfl⟩ := hw
  exact k H1 locs1 ls (by rw [← ht]; exact hB.1) (hO.2.2.1 _ _ _ _ hB.2) hS1 hl
theorem j_cSF (C : jC E G cc own Ts rm n0) {y : MethodName} {bytes : ByteArray} {maxL n index : Nat} {ret : Option FieldType} {ws ws' : List Cond} {rm1 : Room} {K1 : Mem} {r1 : UInt32} (As : List Value) (hg : GoodIn Ts (va_wsS own index y ws)) (hw : ws = Cond.code y bytes maxL ret :: ws') (hdd : y.cls ≠ "java/lang/invoke/MethodHandle" ∧ y.cls ≠ "java/lang/invoke/VarHandle" ∧ (parseMethodDescriptor y.desc).map (fun d => d.parameters.length) = some n) (hR : (rm1.cells = 0 ∧ rm1.slots = 0) ∧ rm1.frames + 1 ≤ rm.frames ∧ 8 + (maxL + 11) + rm1.locals ≤ rm.locals) (hn : As.length = n) (hM : cF E y ws rm1 As K r1 K1) (hd : decode cc pc = .ok (.invokestatic index, 3)) {stk0 : List Value} (hst : stk0 = As.reverse ++ stk) (hcat : (stk.map fun v => v.category).sum ≤ 8) (k : jW E G K1 (pc + 3) lv (.float r1 :: stk)) : jW E G K pc lv stk0 := by
  obtain ⟨l, D, w, AA, tys, NW⟩ := E
  obtain ⟨p, e, R, s, m, args, below, meth, c, nL, Q⟩ := G
  obtain ⟨⟨hx, hb, hml, hown, hts⟩, hK, hN, hR0, hn0, hO⟩ := C
  intro H locs ls hP hD hS hl
  subst hst
  subst hR0
  refine va_callf (va_runS (As := As) (rest := stk) ⟨hx, hb, hml, hown, hts⟩ (hM H.size) (va_cwS n hts hg hw hR.1.1 hR.1.2 hdd hR.2) ⟨jP_blind hO, jP_of hO hP hD hK hN⟩ rfl hn (hl.1) rfl (lv_room hcat) hd ⟨Nat.zero_le _, Nat.zero_le _⟩) hS (fun q _ h => hO.2.1 _ _ q hS.1 h) (fun q h => hO.2.1 _ _ q hS.1 h) (fun r u t H1 locs1 ht hvm hw hB hz1 hk1 hS1 => ?_)
  obtain ⟨rfl, rfl⟩ := hw
  exact k H1 locs1 ls (by rw [← ht]; exact hB.1) (hO.2.2.1 _ _ _ _ hB.2) hS1 hl
theorem j_cNF (C : jC E G cc own Ts rm n0) {y : MethodName} {bytes : ByteArray} {maxL n index : Nat} {ret : Option FieldType} {ws ws' : List Cond} {rm1 : Room} {K1 : Mem} {r1 : UInt32} {host : String} (As : List Value) (hg : GoodIn Ts ws) (hw : ws = Cond.code y bytes maxL ret :: ws') (hnw : ∀ U, E.2.2.2.2.2 U → va_Nw (.methodLinkNest own index y host) U) (hini : Cond.initialized y.cls ∈ Ts) (hsta : Cond.static y ∈ Ts) (hdd : y.cls ≠ "java/lang/invoke/MethodHandle" ∧ y.cls ≠ "java/lang/invoke/VarHandle" ∧ (parseMethodDescriptor y.desc).map (fun d => d.parameters.length) = some n) (hR : (rm1.cells = 0 ∧ rm1.slots = 0) ∧ rm1.frames + 1 ≤ rm.frames ∧ 8 + (maxL + 11) + rm1.locals ≤ rm.locals) (hn : As.length = n) (hM : cF E y ws rm1 As K r1 K1) (hd : decode cc pc = .ok (.invokestatic index, 3)) {stk0 : List Value} (hst : stk0 = As.reverse ++ stk) (hcat : (stk.map fun v => v.category).sum ≤ 8) (k : jW E G K1 (pc + 3) lv (.float r1 :: stk)) : jW E G K pc lv stk0 := by
  obtain ⟨l, D, w, AA, tys, NW⟩ := E
  obtain ⟨p, e, R, s, m, args, below, meth, c, nL, Q⟩ := G
  obtain ⟨⟨hx, hb, hml, hown, hts⟩, hK, hN, hR0, hn0, hO⟩ := C
  intro H locs ls hP hD hS hl
  subst hst
  subst hR0
  refine va_callf (va_runSN (host := host) (As := As) (rest := stk) ⟨hx, hb, hml, hown, hts⟩ (hM H.size) ⟨va_cnB n hts hg hw hR.1.1 hR.1.2 (hnw _ hN) (hts _ hini) hdd hR.2, hts _ hsta, trivial⟩ ⟨jP_blind hO, jP_of hO hP hD hK hN⟩ rfl hn (hl.1) rfl (lv_room hcat) hd ⟨Nat.zero_le _, Nat.zero_le _⟩) hS (fun q _ h => hO.2.1 _ _ q hS.1 h) (fun q h => hO.2.1 _ _ q hS.1 h) (fun r u t H1 locs1 ht hvm hw hB hz1 hk1 hS1 => ?_)
  obtain ⟨rfl, rfl⟩ := hw
  exact k H1 locs1 ls (by rw [← ht]; exact hB.1) (hO.2.2.1 _ _ _ _ hB.2) hS1 hl
theorem j_cVQ (C : jC E G cc own Ts rm n0) {y : MethodName} {bytes : ByteArray} {maxL n index : Nat} {ret : Option FieldType} {ws ws' : List Cond} {rm1 : Room} {K1 : Mem} {r1 : Option Nat} {a q0 ci : Nat} {Cn : String} {TT : u_T} {NN : Nat} {fs : List Value} (As : List Value) (hg : GoodIn Ts (wsV own index Cn y ws)) (hw : ws = Cond.code y bytes maxL ret :: ws') (hdd : y.cls = Cn ∧ y.cls ≠ "java/lang/invoke/MethodHandle" ∧ y.cls ≠ "java/lang/invoke/VarHandle" ∧ (parseMethodDescriptor y.desc).map (fun d => d.parameters.length) = some n) (hR : (rm1.cells = 0 ∧ rm1.slots = 0) ∧ rm1.frames + 1 ≤ rm.frames ∧ 8 + (maxL + 11) + rm1.locals ≤ rm.locals) (hn : As.length = n) (he : (E.2.2.1 K)[q0]? = some (a, .inr (ci, fs))) (hc : vwCl[ci]? = some (Cn, TT, NN)) (hM : cQ E y ws rm1 (.ref a :: As) K r1 K1) (hd : decode cc pc = .ok (.invokevirtual index, 3)) {stk0 : List Value} (hst : stk0 = As.reverse ++ .ref a :: stk) (hcat : (stk.map fun v => v.category).sum ≤ 8) (k : jW E G K1 (pc + 3) lv (va_rf r1 :: stk)) : jW E G K pc lv stk0 := by
  obtain ⟨l, D, w, AA, tys, NW⟩ := E
  obtain ⟨p, e, R, s, m, args, below, meth, c, nL, Q⟩ := G
  obtain ⟨⟨hx, hb, hml, hown, hts⟩, hK, hN, hR0, hn0, hO⟩ := C
  intro H locs ls hP hD hS hl
  subst hst
  subst hR0
  refine va_callq (va_runV (As := As) (rest := stk) ⟨hx, hb, hml, hown, hts⟩ (hM H.size) (cwV n hts hg hw hR.1.1 hR.1.2 hdd hR.2) ⟨jP_blind hO, va_recv hK hP hc he, jP_of hO hP hD hK hN⟩ rfl hn (hl.1) rfl (lv_room hcat) hd ⟨Nat.zero_le _, Nat.zero_le _⟩) hS (fun q _ h => hO.2.1 _ _ q hS.1 h) (fun q h => hO.2.1 _ _ q hS.1 h) (fun r u t H1 locs1 ht hvm hw hB hz1 hk1 hS1 => ?_)
  obtain ⟨rfl, rfl⟩ := hw
  exact k H1 locs1 ls (by rw [← ht]; exact hB.1) (hO.2.2.1 _ _ _ _ hB.2) hS1 hl
theorem j_cSQ (C : jC E G cc own Ts rm n0) {y : MethodName} {bytes : ByteArray} {maxL n index : Nat} {ret : Option FieldType} {ws ws' : List Cond} {rm1 : Room} {K1 : Mem} {r1 : Option Nat} (As : List Value) (hg : GoodIn Ts (va_wsS own index y ws)) (hw : ws = Cond.code y bytes maxL ret :: ws') (hdd : y.cls ≠ "java/lang/invoke/MethodHandle" ∧ y.cls ≠ "java/lang/invoke/VarHandle" ∧ (parseMethodDescriptor y.desc).map (fun d => d.parameters.length) = some n) (hR : (rm1.cells = 0 ∧ rm1.slots = 0) ∧ rm1.frames + 1 ≤ rm.frames ∧ 8 + (maxL + 11) + rm1.locals ≤ rm.locals) (hn : As.length = n) (hM : cQ E y ws rm1 As K r1 K1) (hd : decode cc pc = .ok (.invokestatic index, 3)) {stk0 : List Value} (hst : stk0 = As.reverse ++ stk) (hcat : (stk.map fun v => v.category).sum ≤ 8) (k : jW E G K1 (pc + 3) lv (va_rf r1 :: stk)) : jW E G K pc lv stk0 := by
  obtain ⟨l, D, w, AA, tys, NW⟩ := E
  obtain ⟨p, e, R, s, m, args, below, meth, c, nL, Q⟩ := G
  obtain ⟨⟨hx, hb, hml, hown, hts⟩, hK, hN, hR0, hn0, hO⟩ := C
  intro H locs ls hP hD hS hl
  subst hst
  subst hR0
  refine va_callq (va_runS (As := As) (rest := stk) ⟨hx, hb, hml, hown, hts⟩ (hM H.size) (va_cwS n hts hg hw hR.1.1 hR.1.2 hdd hR.2) ⟨jP_blind hO, jP_of hO hP hD hK hN⟩ rfl hn (hl.1) rfl (lv_room hcat) hd ⟨Nat.zero_le _, Nat.zero_le _⟩) hS (fun q _ h => hO.2.1 _ _ q hS.1 h) (fun q h => hO.2.1 _ _ q hS.1 h) (fun r u t H1 locs1 ht hvm hw hB hz1 hk1 hS1 => ?_)
  obtain ⟨rfl, rfl⟩ := hw
  exact k H1 locs1 ls (by rw [← ht]; exact hB.1) (hO.2.2.1 _ _ _ _ hB.2) hS1 hl
theorem j_cNQ (C : jC E G cc own Ts rm n0) {y : MethodName} {bytes : ByteArray} {maxL n index : Nat} {ret : Option FieldType} {ws ws' : List Cond} {rm1 : Room} {K1 : Mem} {r1 : Option Nat} {host : String} (As : List Value) (hg : GoodIn Ts ws) (hw : ws = Cond.code y bytes maxL ret :: ws') (hnw : ∀ U, E.2.2.2.2.2 U → va_Nw (.methodLinkNest own index y host) U) (hini : Cond.initialized y.cls ∈ Ts) (hsta : Cond.static y ∈ Ts) (hdd : y.cls ≠ "java/lang/invoke/MethodHandle" ∧ y.cls ≠ "java/lang/invoke/VarHandle" ∧ (parseMethodDescriptor y.desc).map (fun d => d.parameters.length) = some n) (hR : (rm1.cells = 0 ∧ rm1.slots = 0) ∧ rm1.frames + 1 ≤ rm.frames ∧ 8 + (maxL + 11) + rm1.locals ≤ rm.locals) (hn : As.length = n) (hM : cQ E y ws rm1 As K r1 K1) (hd : decode cc pc = .ok (.invokestatic index, 3)) {stk0 : List Value} (hst : stk0 = As.reverse ++ stk) (hcat : (stk.map fun v => v.category).sum ≤ 8) (k : jW E G K1 (pc + 3) lv (va_rf r1 :: stk)) : jW E G K pc lv stk0 := by
  obtain ⟨l, D, w, AA, tys, NW⟩ := E
  obtain ⟨p, e, R, s, m, args, below, meth, c, nL, Q⟩ := G
  obtain ⟨⟨hx, hb, hml, hown, hts⟩, hK, hN, hR0, hn0, hO⟩ := C
  intro H locs ls hP hD hS hl
  subst hst
  subst hR0
  refine va_callq (va_runSN (host := host) (As := As) (rest := stk) ⟨hx, hb, hml, hown, hts⟩ (hM H.size) ⟨va_cnB n hts hg hw hR.1.1 hR.1.2 (hnw _ hN) (hts _ hini) hdd hR.2, hts _ hsta, trivial⟩ ⟨jP_blind hO, jP_of hO hP hD hK hN⟩ rfl hn (hl.1) rfl (lv_room hcat) hd ⟨Nat.zero_le _, Nat.zero_le _⟩) hS (fun q _ h => hO.2.1 _ _ q hS.1 h) (fun q h => hO.2.1 _ _ q hS.1 h) (fun r u t H1 locs1 ht hvm hw hB hz1 hk1 hS1 => ?_)
  obtain ⟨rfl, rfl⟩ := hw
  exact k H1 locs1 ls (by rw [← ht]; exact hB.1) (hO.2.2.1 _ _ _ _ hB.2) hS1 hl
theorem j_cVR (C : jC E G cc own Ts rm n0) {y : MethodName} {bytes : ByteArray} {maxL n index : Nat} {ret : Option FieldType} {ws ws' : List Cond} {rm1 : Room} {K1 : Mem} {r1 : Nat} {a q0 ci : Nat} {Cn : String} {TT : u_T} {NN : Nat} {fs : List Value} (As : List Value) (hg : GoodIn Ts (wsV own index Cn y ws)) (hw : ws = Cond.code y bytes maxL ret :: ws') (hdd : y.cls = Cn ∧ y.cls ≠ "java/lang/invoke/MethodHandle" ∧ y.cls ≠ "java/lang/invoke/VarHandle" ∧ (parseMethodDescriptor y.desc).map (fun d => d.parameters.length) = some n) (hR : (rm1.cells = 0 ∧ rm1.slots = 0) ∧ rm1.frames + 1 ≤ rm.frames ∧ 8 + (maxL + 11) + rm1.locals ≤ rm.locals) (hn : As.length = n) (he : (E.2.2.1 K)[q0]? = some (a, .inr (ci, fs))) (hc : vwCl[ci]? = some (Cn, TT, NN)) (hM : cQ E y ws rm1 (.ref a :: As) K (some r1) K1) (hd : decode cc pc = .ok (.invokevirtual index, 3)) {stk0 : List Value} (hst : stk0 = As.reverse ++ .ref a :: stk) (hcat : (stk.map fun v => v.category).sum ≤ 8) (k : jW E G K1 (pc + 3) lv (.ref r1 :: stk)) : jW E G K pc lv stk0 := by
  obtain ⟨l, D, w, AA, tys, NW⟩ := E
  obtain ⟨p, e, R, s, m, args, below, meth, c, nL, Q⟩ := G
  obtain ⟨⟨hx, hb, hml, hown, hts⟩, hK, hN, hR0, hn0, hO⟩ := C
  intro H locs ls hP hD hS hl
  subst hst
  subst hR0
  refine va_callq (va_runV (As := As) (rest := stk) ⟨hx, hb, hml, hown, hts⟩ (hM H.size) (cwV n hts hg hw hR.1.1 hR.1.2 hdd hR.2) ⟨jP_blind hO, va_recv hK hP hc he, jP_of hO hP hD hK hN⟩ rfl hn (hl.1) rfl (lv_room hcat) hd ⟨Nat.zero_le _, Nat.zero_le _⟩) hS (fun q _ h => hO.2.1 _ _ q hS.1 h) (fun q h => hO.2.1 _ _ q hS.1 h) (fun r u t H1 locs1 ht hvm hw hB hz1 hk1 hS1 => ?_)
  obtain ⟨rfl, rfl⟩ := hw
  exact k H1 locs1 ls (by rw [← ht]; exact hB.1) (hO.2.2.1 _ _ _ _ hB.2) hS1 hl
theorem j_cSR (C : jC E G cc own Ts rm n0) {y : MethodName} {bytes : ByteArray} {maxL n index : Nat} {ret : Option FieldType} {ws ws' : List Cond} {rm1 : Room} {K1 : Mem} {r1 : Nat} (As : List Value) (hg : GoodIn Ts (va_wsS own index y ws)) (hw : ws = Cond.code y bytes maxL ret :: ws') (hdd : y.cls ≠ "java/lang/invoke/MethodHandle" ∧ y.cls ≠ "java/lang/invoke/VarHandle" ∧ (parseMethodDescriptor y.desc).map (fun d => d.parameters.length) = some n) (hR : (rm1.cells = 0 ∧ rm1.slots = 0) ∧ rm1.frames + 1 ≤ rm.frames ∧ 8 + (maxL + 11) + rm1.locals ≤ rm.locals) (hn : As.length = n) (hM : cQ E y ws rm1 As K (some r1) K1) (hd : decode cc pc = .ok (.invokestatic index, 3)) {stk0 : List Value} (hst : stk0 = As.reverse ++ stk) (hcat : (stk.map fun v => v.category).sum ≤ 8) (k : jW E G K1 (pc + 3) lv (.ref r1 :: stk)) : jW E G K pc lv stk0 := by
  obtain ⟨l, D, w, AA, tys, NW⟩ := E
  obtain ⟨p, e, R, s, m, args, below, meth, c, nL, Q⟩ := G
  obtain ⟨⟨hx, hb, hml, hown, hts⟩, hK, hN, hR0, hn0, hO⟩ := C
  intro H locs ls hP hD hS hl
  subst hst
  subst hR0
  refine va_callq (va_runS (As := As) (rest := stk) ⟨hx, hb, hml, hown, hts⟩ (hM H.size) (va_cwS n hts hg hw hR.1.1 hR.1.2 hdd hR.2) ⟨jP_blind hO, jP_of hO hP hD hK hN⟩ rfl hn (hl.1) rfl (lv_room hcat) hd ⟨Nat.zero_le _, Nat.zero_le _⟩) hS (fun q _ h => hO.2.1 _ _ q hS.1 h) (fun q h => hO.2.1 _ _ q hS.1 h) (fun r u t H1 locs1 ht hvm hw hB hz1 hk1 hS1 => ?_)
  obtain ⟨rfl, rfl⟩ := hw
  exact k H1 locs1 ls (by rw [← ht]; exact hB.1) (hO.2.2.1 _ _ _ _ hB.2) hS1 hl
theorem j_cNR (C : jC E G cc own Ts rm n0) {y : MethodName} {bytes : ByteArray} {maxL n index : Nat} {ret : Option FieldType} {ws ws' : List Cond} {rm1 : Room} {K1 : Mem} {r1 : Nat} {host : String} (As : List Value) (hg : GoodIn Ts ws) (hw : ws = Cond.code y bytes maxL ret :: ws') (hnw : ∀ U, E.2.2.2.2.2 U → va_Nw (.methodLinkNest own index y host) U) (hini : Cond.initialized y.cls ∈ Ts) (hsta : Cond.static y ∈ Ts) (hdd : y.cls ≠ "java/lang/invoke/MethodHandle" ∧ y.cls ≠ "java/lang/invoke/VarHandle" ∧ (parseMethodDescriptor y.desc).map (fun d => d.parameters.length) = some n) (hR : (rm1.cells = 0 ∧ rm1.slots = 0) ∧ rm1.frames + 1 ≤ rm.frames ∧ 8 + (maxL + 11) + rm1.locals ≤ rm.locals) (hn : As.length = n) (hM : cQ E y ws rm1 As K (some r1) K1) (hd : decode cc pc = .ok (.invokestatic index, 3)) {stk0 : List Value} (hst : stk0 = As.reverse ++ stk) (hcat : (stk.map fun v => v.category).sum ≤ 8) (k : jW E G K1 (pc + 3) lv (.ref r1 :: stk)) : jW E G K pc lv stk0 := by
  obtain ⟨l, D, w, AA, tys, NW⟩ := E
  obtain ⟨p, e, R, s, m, args, below, meth, c, nL, Q⟩ := G
  obtain ⟨⟨hx, hb, hml, hown, hts⟩, hK, hN, hR0, hn0, hO⟩ := C
  intro H locs ls hP hD hS hl
  subst hst
  subst hR0
  refine va_callq (va_runSN (host := host) (As := As) (rest := stk) ⟨hx, hb, hml, hown, hts⟩ (hM H.size) ⟨va_cnB n hts hg hw hR.1.1 hR.1.2 (hnw _ hN) (hts _ hini) hdd hR.2, hts _ hsta, trivial⟩ ⟨jP_blind hO, jP_of hO hP hD hK hN⟩ rfl hn (hl.1) rfl (lv_room hcat) hd ⟨Nat.zero_le _, Nat.zero_le _⟩) hS (fun q _ h => hO.2.1 _ _ q hS.1 h) (fun q h => hO.2.1 _ _ q hS.1 h) (fun r u t H1 locs1 ht hvm hw hB hz1 hk1 hS1 => ?_)
  obtain ⟨rfl, rfl⟩ := hw
  exact k H1 locs1 ls (by rw [← ht]; exact hB.1) (hO.2.2.1 _ _ _ _ hB.2) hS1 hl
theorem j_cVV (C : jC E G cc own Ts rm n0) {y : MethodName} {bytes : ByteArray} {maxL n index : Nat} {ret : Option FieldType} {ws ws' : List Cond} {rm1 : Room} {K1 : Mem}  {a q0 ci : Nat} {Cn : String} {TT : u_T} {NN : Nat} {fs : List Value} (As : List Value) (hg : GoodIn Ts (wsV own index Cn y ws)) (hw : ws = Cond.code y bytes maxL ret :: ws') (hdd : y.cls = Cn ∧ y.cls ≠ "java/lang/invoke/MethodHandle" ∧ y.cls ≠ "java/lang/invoke/VarHandle" ∧ (parseMethodDescriptor y.desc).map (fun d => d.parameters.length) = some n) (hR : (rm1.cells = 0 ∧ rm1.slots = 0) ∧ rm1.frames + 1 ≤ rm.frames ∧ 8 + (maxL + 11) + rm1.locals ≤ rm.locals) (hn : As.length = n) (he : (E.2.2.1 K)[q0]? = some (a, .inr (ci, fs))) (hc : vwCl[ci]? = some (Cn, TT, NN)) (hM : cV E y ws rm1 (.ref a :: As) K K1) (hd : decode cc pc = .ok (.invokevirtual index, 3)) {stk0 : List Value} (hst : stk0 = As.reverse ++ .ref a :: stk) (hcat : (stk.map fun v => v.category).sum ≤ 8) (k : jW E G K1 (pc + 3) lv (stk)) : jW E G K pc lv stk0 := by
  obtain ⟨l, D, w, AA, tys, NW⟩ := E
  obtain ⟨p, e, R, s, m, args, below, meth, c, nL, Q⟩ := G
  obtain ⟨⟨hx, hb, hml, hown, hts⟩, hK, hN, hR0, hn0, hO⟩ := C
  intro H locs ls hP hD hS hl
  subst hst
  subst hR0
  refine va_callv (va_runV (As := As) (rest := stk) ⟨hx, hb, hml, hown, hts⟩ (hM H.size) (cwV n hts hg hw hR.1.1 hR.1.2 hdd hR.2) ⟨jP_blind hO, va_recv hK hP hc he, jP_of hO hP hD hK hN⟩ rfl hn (hl.1) rfl (lv_room hcat) hd ⟨Nat.zero_le _, Nat.zero_le _⟩) hS (fun q _ h => hO.2.1 _ _ q hS.1 h) (fun q h => hO.2.1 _ _ q hS.1 h) (fun u t H1 locs1 ht hvm hw hB hz1 hk1 hS1 => ?_)
  obtain rfl := hw
  exact k H1 locs1 ls (by rw [← ht]; exact hB.1) (hO.2.2.1 _ _ _ _ hB.2) hS1 hl
theorem j_cSV (C : jC E G cc own Ts rm n0) {y : MethodName} {bytes : ByteArray} {maxL n index : Nat} {ret : Option FieldType} {ws ws' : List Cond} {rm1 : Room} {K1 : Mem}  (As : List Value) (hg : GoodIn Ts (va_wsS own index y ws)) (hw : ws = Cond.code y bytes maxL ret :: ws') (hdd : y.cls ≠ "java/lang/invoke/MethodHandle" ∧ y.cls ≠ "java/lang/invoke/VarHandle" ∧ (parseMethodDescriptor y.desc).map (fun d => d.parameters.length) = some n) (hR : (rm1.cells = 0 ∧ rm1.slots = 0) ∧ rm1.frames + 1 ≤ rm.frames ∧ 8 + (maxL + 11) + rm1.locals ≤ rm.locals) (hn : As.length = n) (hM : cV E y ws rm1 As K K1) (hd : decode cc pc = .ok (.invokestatic index, 3)) {stk0 : List Value} (hst : stk0 = As.reverse ++ stk) (hcat : (stk.map fun v => v.category).sum ≤ 8) (k : jW E G K1 (pc + 3) lv (stk)) : jW E G K pc lv stk0 := by
  obtain ⟨l, D, w, AA, tys, NW⟩ := E
  obtain ⟨p, e, R, s, m, args, below, meth, c, nL, Q⟩ := G
  obtain ⟨⟨hx, hb, hml, hown, hts⟩, hK, hN, hR0, hn0, hO⟩ := C
  intro H locs ls hP hD hS hl
  subst hst
  subst hR0
  refine va_callv (va_runS (As := As) (rest := stk) ⟨hx, hb, hml, hown, hts⟩ (hM H.size) (va_cwS n hts hg hw hR.1.1 hR.1.2 hdd hR.2) ⟨jP_blind hO, jP_of hO hP hD hK hN⟩ rfl hn (hl.1) rfl (lv_room hcat) hd ⟨Nat.zero_le _, Nat.zero_le _⟩) hS (fun q _ h => hO.2.1 _ _ q hS.1 h) (fun q h => hO.2.1 _ _ q hS.1 h) (fun u t H1 locs1 ht hvm hw hB hz1 hk1 hS1 => ?_)
  obtain rfl := hw
  exact k H1 locs1 ls (by rw [← ht]; exact hB.1) (hO.2.2.1 _ _ _ _ hB.2) hS1 hl
theorem j_cNV (C : jC E G cc own Ts rm n0) {y : MethodName} {bytes : ByteArray} {maxL n index : Nat} {ret : Option FieldType} {ws ws' : List Cond} {rm1 : Room} {K1 : Mem}  {host : String} (As : List Value) (hg : GoodIn Ts ws) (hw : ws = Cond.code y bytes maxL ret :: ws') (hnw : ∀ U, E.2.2.2.2.2 U → va_Nw (.methodLinkNest own index y host) U) (hini : Cond.initialized y.cls ∈ Ts) (hsta : Cond.static y ∈ Ts) (hdd : y.cls ≠ "java/lang/invoke/MethodHandle" ∧ y.cls ≠ "java/lang/invoke/VarHandle" ∧ (parseMethodDescriptor y.desc).map (fun d => d.parameters.length) = some n) (hR : (rm1.cells = 0 ∧ rm1.slots = 0) ∧ rm1.frames + 1 ≤ rm.frames ∧ 8 + (maxL + 11) + rm1.locals ≤ rm.locals) (hn : As.length = n) (hM : cV E y ws rm1 As K K1) (hd : decode cc pc = .ok (.invokestatic index, 3)) {stk0 : List Value} (hst : stk0 = As.reverse ++ stk) (hcat : (stk.map fun v => v.category).sum ≤ 8) (k : jW E G K1 (pc + 3) lv (stk)) : jW E G K pc lv stk0 := by
  obtain ⟨l, D, w, AA, tys, NW⟩ := E
  obtain ⟨p, e, R, s, m, args, below, meth, c, nL, Q⟩ := G
  obtain ⟨⟨hx, hb, hml, hown, hts⟩, hK, hN, hR0, hn0, hO⟩ := C
  intro H locs ls hP hD hS hl
  subst hst
  subst hR0
  refine va_callv (va_runSN (host := host) (As := As) (rest := stk) ⟨hx, hb, hml, hown, hts⟩ (hM H.size) ⟨va_cnB n hts hg hw hR.1.1 hR.1.2 (hnw _ hN) (hts _ hini) hdd hR.2, hts _ hsta, trivial⟩ ⟨jP_blind hO, jP_of hO hP hD hK hN⟩ rfl hn (hl.1) rfl (lv_room hcat) hd ⟨Nat.zero_le _, Nat.zero_le _⟩) hS (fun q _ h => hO.2.1 _ _ q hS.1 h) (fun q h => hO.2.1 _ _ q hS.1 h) (fun u t H1 locs1 ht hvm hw hB hz1 hk1 hS1 => ?_)
  obtain rfl := hw
  exact k H1 locs1 ls (by rw [← ht]; exact hB.1) (hO.2.2.1 _ _ _ _ hB.2) hS1 hl
def jmin (x y : Int32) : Int32 := if y < x then y else x
theorem j_mmin (C : jC E G cc own Ts rm n0) {x y : Int32} {index : Nat} (h1 : Cond.methodLink own index Lib.Math.min.name ∈ Ts) (h2 : Cond.static Lib.Math.min.name ∈ Ts) (h3 : Cond.initialized "java/lang/Math" ∈ Ts) (h4 : Cond.code Lib.Math.min.name Lib.Math.min.code 2 (some .int) ∈ Ts) (h5 : 1 ≤ rm.frames) (h6 : (stk.map fun v => v.category).sum + 13 ≤ rm.locals) (hd : decode cc pc = .ok (.invokestatic index, 3)) (k : jW E G K (pc + 3) lv (.int (jmin x y) :: stk)) : jW E G K (pc) lv (.int y :: .int x :: stk) := by
  obtain ⟨l, D, w, AA, tys, NW⟩ := E
  obtain ⟨p, e, R, s, m, args, below, meth, c, nL, Q⟩ := G
  obtain ⟨⟨hx, hb, hml, hown, hts⟩, hK, hN, hR, hn0, hO⟩ := C
  intro H locs ls hP hD hS hl
  subst hR
  exact va_mmin hx hb (hml.trans hl.1.symm) hown (hts _ h1) (hts _ h2) (hts _ h3) (hts _ h4) h5 h6 (Nat.zero_le _) (Nat.zero_le _) hd (k H locs ls hP hD hS hl)
/-- a row of ints copied over another, from 0 to 0 -/
theorem j_copy (C : jC E G cc own Ts rm n0) {α : Type} {F : Mem → Option α} {u : α} {index q0 q1 a0 a n0 n1 : Nat} {c0 c1 : ClassId} {f g : Nat → Int32} {n : Int32} (t0 : Nat) (KK : Mem) (h1 : Cond.methodLink own index arraycopyName ∈ Ts) (h2 : Cond.native arraycopyName ∈ Ts) (h3 : Cond.static arraycopyName ∈ Ts) (h4 : Cond.initialized "java/lang/System" ∈ Ts) (he0 : (E.2.2.1 K)[q0]? = some (a0, .inl (c0, n0, .inl f))) (he1 : (E.2.2.1 K)[q1]? = some (a, .inl (c1, n1, .inl g))) (ht0 : E.2.2.2.2.1[t0]? = some (c0, .int)) (ht1 : E.2.2.2.2.1[t0]? = some (c1, .int)) (hn : ¬ n < 0) (hn0 : n.toNatClampNeg ≤ n0) (hn1 : n.toNatClampNeg ≤ n1) (hset : (E.2.2.1 K).set q1 (a, .inl (c1, n1, .inl (va_cpy f g 0 0 n.toNatClampNeg))) = E.2.2.1 KK) (h5 : 1 ≤ rm.frames) (h6 : (stk.map fun v => v.category).sum + (nativeFrameWords "java/lang/System" "arraycopy" 5 + 11) ≤ rm.locals) (hd : decode cc pc = .ok (.invokestatic index, 3)) (hf : F KK = some u) (k : ∀ K2, F K2 = some u → jW E G K2 (pc + 3) lv stk) : jW E G K (pc) lv (.int n :: .int 0 :: .ref a :: .int 0 :: .ref a0 :: stk) := by
  obtain ⟨l, D, w, AA, tys, NW⟩ := E
  obtain ⟨p, e, R, s, m, args, below, meth, c, nL, Q⟩ := G
  obtain ⟨⟨hx, hb, hml, hown, hts⟩, hK, hN, hR, hnn, hO⟩ := C
  intro H locs ls hP hD hS hl
  subst hR
  refine va_copyi hx hb (hml.trans hl.1.symm) hown (hts _ h1) (hts _ h2) (hts _ h3) (hts _ h4) hK hP hD hS q0 q1 t0 t0 he0 he1 ht0 ht1 rfl (by decide) (by decide) hn ?_ ?_ (fun _ _ => rfl) h5 h6 hd (fun H1 locs1 p1 d1 s1 => k _ hf H1 locs1 ls (cP hset p1) (cD hset d1) s1 hl)
  · show 0 + _ ≤ _
    omega
  · show 0 + _ ≤ _
    omega
theorem j_sub (ps : List Nat) {lv2 : List (Nat × Value)} (h : lv_pick lv ps = lv2) (k : jW E G K pc lv2 stk) : jW E G K pc lv stk := by
  obtain ⟨l, D, w, AA, tys, NW⟩ := E
  obtain ⟨p, e, R, s, m, args, below, meth, c, nL, Q⟩ := G
  intro H locs ls hP hD hS hl
  exact k H locs ls hP hD hS (lv_sub hl ps h)
abbrev oc {α : Type} (u : Option Nat) (a : α) (f : Nat → α) : α := match u with
  | none => a
  | some b => f b
theorem oc_n {α : Type} {a r : α} {f : Nat → α} (h : oc none a f = r) : a = r := h
theorem oc_s {α : Type} {a r : α} {f : Nat → α} {b : Nat} (h : oc (some b) a f = r) : f b = r := h
end JR
