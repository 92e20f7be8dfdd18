/-! THE K LAYER. kW E G ws cu su pc lv st: the machine stands at pc with locals lv, stack st, the explicit world ws, cu cells and su slots made so far, and comes to the end that G asks for. -/
abbrev kE : Type := Launch × va_G × (Nat → Prop) × List (ClassId × FieldType)
abbrev gS (G : jG) : State := G.2.2.2.1
abbrev gMe (G : jG) : Method := G.2.2.2.2.2.2.2.1
def kW : kE → jG → va_W → Nat → Nat → Nat → List (Nat × Value) → List Value → Prop
  | (l, D, A, _), (p, e, R, s, m, args, below, meth, c, nL, Q), ws, cu, su, pc, lv, stk => ∀ (H : Heap) (locs : List Loc) (ls : Array Slot), va_P D vwCl ws H → va_D A ws → va_S A s.heap H locs → lv_has ls nL lv → W p l e R s m args below meth c H locs cu su Q (F0 m pc ls stk)
def kC : kE → jG → ByteArray → String → List Cond → Room → Nat → Prop
  | (_, D, A, tys), (p, _, R, s, m, args, _, _, c, nL, _), cc, own, Ts, rm, n0 => CallFix p m c cc nL s args Ts own ∧ va_K D vwCl tys s ∧ R = rm ∧ nL = n0 ∧ ∀ q, s.heap.size ≤ q → A q
section KR
variable {E : kE} {G : jG} {cc : ByteArray} {own : String} {Ts : List Cond} {rm : Room} {n0 : Nat} {ws : va_W} {cu su : Nat} {pc : Nat} {lv : List (Nat × Value)} {stk : List Value}
theorem k_iconst (C : kC E G cc own Ts rm n0) {n : Int} {v : Int32} (hd : decode cc pc = .ok (.iconst n, 1)) (hv : Int32.ofInt n = v) (k : kW E G ws cu su (pc + 1) lv (.int v :: stk)) : kW E G ws cu su (pc) lv (stk) := by
  obtain ⟨l, D, A, tys⟩ := E
  obtain ⟨p, e, R, s, m, args, below, meth, c, nL, Q⟩ := G
  obtain ⟨⟨hx, hb, hml, hown, hts⟩, hK, hR, hn0, hA⟩ := C
  intro H locs ls hP hD hS hl
  exact lv_iconst hx hb hd hv (k H locs ls hP hD hS hl)
theorem k_bipush (C : kC E G cc own Ts rm n0) {n : Int} {v : Int32} (hd : decode cc pc = .ok (.bipush n, 2)) (hv : (Int8.ofInt n).toInt32 = v) (k : kW E G ws cu su (pc + 2) lv (.int v :: stk)) : kW E G ws cu su (pc) lv (stk) := by
  obtain ⟨l, D, A, tys⟩ := E
  obtain ⟨p, e, R, s, m, args, below, meth, c, nL, Q⟩ := G
  obtain ⟨⟨hx, hb, hml, hown, hts⟩, hK, hR, hn0, hA⟩ := C
  intro H locs ls hP hD hS hl
  exact lv_bipush hx hb hd hv (k H locs ls hP hD hS hl)
theorem k_sipush (C : kC E G cc own Ts rm n0) {n : Int} {v : Int32} (hd : decode cc pc = .ok (.sipush n, 3)) (hv : (Int16.ofInt n).toInt32 = v) (k : kW E G ws cu su (pc + 3) lv (.int v :: stk)) : kW E G ws cu su (pc) lv (stk) := by
  obtain ⟨l, D, A, tys⟩ := E
  obtain ⟨p, e, R, s, m, args, below, meth, c, nL, Q⟩ := G
  obtain ⟨⟨hx, hb, hml, hown, hts⟩, hK, hR, hn0, hA⟩ := C
  intro H locs ls hP hD hS hl
  exact lv_sipush hx hb hd hv (k H locs ls hP hD hS hl)
theorem k_iload_n (C : kC E G cc own Ts rm n0) {i0 : Fin 4} {i : Nat} {x : Int32} (j : Nat) (hd : decode cc pc = .ok (.iload_n i0, 1)) (hi : (i0 : Nat) = i) (hj : lv[j]? = some (i, .int x)) (k : kW E G ws cu su (pc + 1) lv (.int x :: stk)) : kW E G ws cu su (pc) lv (stk) := by
  obtain ⟨l, D, A, tys⟩ := E
  obtain ⟨p, e, R, s, m, args, below, meth, c, nL, Q⟩ := G
  obtain ⟨⟨hx, hb, hml, hown, hts⟩, hK, hR, hn0, hA⟩ := C
  intro H locs ls hP hD hS hl
  exact lv_iload_n hx hb hd hi (lv_at hl j hj) (k H locs ls hP hD hS hl)
theorem k_iload (C : kC E G cc own Ts rm n0) {i : Nat} {x : Int32} (j : Nat) (hd : decode cc pc = .ok (.iload i, 2)) (hj : lv[j]? = some (i, .int x)) (k : kW E G ws cu su (pc + 2) lv (.int x :: stk)) : kW E G ws cu su (pc) lv (stk) := by
  obtain ⟨l, D, A, tys⟩ := E
  obtain ⟨p, e, R, s, m, args, below, meth, c, nL, Q⟩ := G
  obtain ⟨⟨hx, hb, hml, hown, hts⟩, hK, hR, hn0, hA⟩ := C
  intro H locs ls hP hD hS hl
  exact lv_iload hx hb hd (lv_at hl j hj) (k H locs ls hP hD hS hl)
theorem k_aload_n (C : kC E G cc own Ts rm n0) {i0 : Fin 4} {i : Nat} {x : Nat} (j : Nat) (hd : decode cc pc = .ok (.aload_n i0, 1)) (hi : (i0 : Nat) = i) (hj : lv[j]? = some (i, .ref x)) (k : kW E G ws cu su (pc + 1) lv (.ref x :: stk)) : kW E G ws cu su (pc) lv (stk) := by
  obtain ⟨l, D, A, tys⟩ := E
  obtain ⟨p, e, R, s, m, args, below, meth, c, nL, Q⟩ := G
  obtain ⟨⟨hx, hb, hml, hown, hts⟩, hK, hR, hn0, hA⟩ := C
  intro H locs ls hP hD hS hl
  exact lv_aload_n hx hb hd hi (lv_at hl j hj) (k H locs ls hP hD hS hl)
theorem k_aload (C : kC E G cc own Ts rm n0) {i : Nat} {x : Nat} (j : Nat) (hd : decode cc pc = .ok (.aload i, 2)) (hj : lv[j]? = some (i, .ref x)) (k : kW E G ws cu su (pc + 2) lv (.ref x :: stk)) : kW E G ws cu su (pc) lv (stk) := by
  obtain ⟨l, D, A, tys⟩ := E
  obtain ⟨p, e, R, s, m, args, below, meth, c, nL, Q⟩ := G
  obtain ⟨⟨hx, hb, hml, hown, hts⟩, hK, hR, hn0, hA⟩ := C
  intro H locs ls hP hD hS hl
  exact lv_aload hx hb hd (lv_at hl j hj) (k H locs ls hP hD hS hl)
theorem k_dload (C : kC E G cc own Ts rm n0) {i : Nat} {x : UInt64} (j : Nat) (hd : decode cc pc = .ok (.dload i, 2)) (hj : lv[j]? = some (i, .double x)) (k : kW E G ws cu su (pc + 2) lv (.double x :: stk)) : kW E G ws cu su (pc) lv (stk) := by
  obtain ⟨l, D, A, tys⟩ := E
  obtain ⟨p, e, R, s, m, args, below, meth, c, nL, Q⟩ := G
  obtain ⟨⟨hx, hb, hml, hown, hts⟩, hK, hR, hn0, hA⟩ := C
  intro H locs ls hP hD hS hl
  exact lv_dload hx hb hd (lv_at hl j hj) (k H locs ls hP hD hS hl)
theorem k_istore_n (C : kC E G cc own Ts rm n0) {i0 : Fin 4} {i : Nat} {x : Int32} (lv2 : List (Nat × Value)) (hd : decode cc pc = .ok (.istore_n i0, 1)) (hi : (i0 : Nat) = i) (hn : i < n0) (hl2 : (i, Value.int x) :: lv.filter (fun q => !(q.1 == i) && !(q.1 + 1 == i && q.2.category == 2)) = lv2) (k : kW E G ws cu su (pc + 1) lv2 (stk)) : kW E G ws cu su (pc) lv (.int x :: stk) := by
  obtain ⟨l, D, A, tys⟩ := E
  obtain ⟨p, e, R, s, m, args, below, meth, c, nL, Q⟩ := G
  obtain ⟨⟨hx, hb, hml, hown, hts⟩, hK, hR, hn0, hA⟩ := C
  intro H locs ls hP hD hS hl
  exact lv_istore_n hx hb hd hi hl (by rw [hn0]; exact hn) hl2 (fun ls' hl' => k H locs ls' hP hD hS hl')
theorem k_istore (C : kC E G cc own Ts rm n0) {i : Nat} {x : Int32} (lv2 : List (Nat × Value)) (hd : decode cc pc = .ok (.istore i, 2)) (hn : i < n0) (hl2 : (i, Value.int x) :: lv.filter (fun q => !(q.1 == i) && !(q.1 + 1 == i && q.2.category == 2)) = lv2) (k : kW E G ws cu su (pc + 2) lv2 (stk)) : kW E G ws cu su (pc) lv (.int x :: stk) := by
  obtain ⟨l, D, A, tys⟩ := E
  obtain ⟨p, e, R, s, m, args, below, meth, c, nL, Q⟩ := G
  obtain ⟨⟨hx, hb, hml, hown, hts⟩, hK, hR, hn0, hA⟩ := C
  intro H locs ls hP hD hS hl
  exact lv_istore hx hb hd hl (by rw [hn0]; exact hn) hl2 (fun ls' hl' => k H locs ls' hP hD hS hl')
theorem k_astore_n (C : kC E G cc own Ts rm n0) {i0 : Fin 4} {i : Nat} {x : Nat} (lv2 : List (Nat × Value)) (hd : decode cc pc = .ok (.astore_n i0, 1)) (hi : (i0 : Nat) = i) (hn : i < n0) (hl2 : (i, Value.ref x) :: lv.filter (fun q => !(q.1 == i) && !(q.1 + 1 == i && q.2.category == 2)) = lv2) (k : kW E G ws cu su (pc + 1) lv2 (stk)) : kW E G ws cu su (pc) lv (.ref x :: stk) := by
  obtain ⟨l, D, A, tys⟩ := E
  obtain ⟨p, e, R, s, m, args, below, meth, c, nL, Q⟩ := G
  obtain ⟨⟨hx, hb, hml, hown, hts⟩, hK, hR, hn0, hA⟩ := C
  intro H locs ls hP hD hS hl
  exact lv_astore_n hx hb hd hi hl (by rw [hn0]; exact hn) hl2 (fun ls' hl' => k H locs ls' hP hD hS hl')
theorem k_astore (C : kC E G cc own Ts rm n0) {i : Nat} {x : Nat} (lv2 : List (Nat × Value)) (hd : decode cc pc = .ok (.astore i, 2)) (hn : i < n0) (hl2 : (i, Value.ref x) :: lv.filter (fun q => !(q.1 == i) && !(q.1 + 1 == i && q.2.category == 2)) = lv2) (k : kW E G ws cu su (pc + 2) lv2 (stk)) : kW E G ws cu su (pc) lv (.ref x :: stk) := by
  obtain ⟨l, D, A, tys⟩ := E
  obtain ⟨p, e, R, s, m, args, below, meth, c, nL, Q⟩ := G
  obtain ⟨⟨hx, hb, hml, hown, hts⟩, hK, hR, hn0, hA⟩ := C
  intro H locs ls hP hD hS hl
  exact lv_astore hx hb hd hl (by rw [hn0]; exact hn) hl2 (fun ls' hl' => k H locs ls' hP hD hS hl')
theorem k_dstore (C : kC E G cc own Ts rm n0) {i : Nat} {x : UInt64} (lv2 : List (Nat × Value)) (hd : decode cc pc = .ok (.dstore i, 2)) (hn : i + 1 < n0) (hl2 : (i, Value.double x) :: lv.filter (fun q => !(q.1 == i) && (!(q.1 == i + 1) && !(q.1 + 1 == i && q.2.category == 2))) = lv2) (k : kW E G ws cu su (pc + 2) lv2 (stk)) : kW E G ws cu su (pc) lv (.double x :: stk) := by
  obtain ⟨l, D, A, tys⟩ := E
  obtain ⟨p, e, R, s, m, args, below, meth, c, nL, Q⟩ := G
  obtain ⟨⟨hx, hb, hml, hown, hts⟩, hK, hR, hn0, hA⟩ := C
  intro H locs ls hP hD hS hl
  exact lv_dstore hx hb hd hl (by rw [hn0]; exact hn) hl2 (fun ls' hl' => k H locs ls' hP hD hS hl')
theorem k_iinc (C : kC E G cc own Ts rm n0) {i : Nat} {n : Int} {x v : Int32} (j : Nat) (lv2 : List (Nat × Value)) (hd : decode cc pc = .ok (.iinc i n, 3)) (hj : lv[j]? = some (i, .int x)) (hv : x + Int32.ofInt n = v) (hn : i < n0) (hl2 : (i, Value.int v) :: lv.filter (fun q => !(q.1 == i) && !(q.1 + 1 == i && q.2.category == 2)) = lv2) (k : kW E G ws cu su (pc + 3) lv2 (stk)) : kW E G ws cu su (pc) lv (stk) := by
  obtain ⟨l, D, A, tys⟩ := E
  obtain ⟨p, e, R, s, m, args, below, meth, c, nL, Q⟩ := G
  obtain ⟨⟨hx, hb, hml, hown, hts⟩, hK, hR, hn0, hA⟩ := C
  intro H locs ls hP hD hS hl
  exact lv_iinc hx hb hd hl hj hv (by rw [hn0]; exact hn) hl2 (fun ls' hl' => k H locs ls' hP hD hS hl')
theorem k_iadd (C : kC E G cc own Ts rm n0) {x y : Int32} (hd : decode cc pc = .ok (.iadd, 1)) (k : kW E G ws cu su (pc + 1) lv (.int (x + y) :: stk)) : kW E G ws cu su (pc) lv (.int y :: .int x :: stk) := by
  obtain ⟨l, D, A, tys⟩ := E
  obtain ⟨p, e, R, s, m, args, below, meth, c, nL, Q⟩ := G
  obtain ⟨⟨hx, hb, hml, hown, hts⟩, hK, hR, hn0, hA⟩ := C
  intro H locs ls hP hD hS hl
  exact lv_iadd hx hb hd (k H locs ls hP hD hS hl)
theorem k_isub (C : kC E G cc own Ts rm n0) {x y : Int32} (hd : decode cc pc = .ok (.isub, 1)) (k : kW E G ws cu su (pc + 1) lv (.int (x - y) :: stk)) : kW E G ws cu su (pc) lv (.int y :: .int x :: stk) := by
  obtain ⟨l, D, A, tys⟩ := E
  obtain ⟨p, e, R, s, m, args, below, meth, c, nL, Q⟩ := G
  obtain ⟨⟨hx, hb, hml, hown, hts⟩, hK, hR, hn0, hA⟩ := C
  intro H locs ls hP hD hS hl
  exact lv_isub hx hb hd (k H locs ls hP hD hS hl)
theorem k_iand (C : kC E G cc own Ts rm n0) {x y : Int32} (hd : decode cc pc = .ok (.iand, 1)) (k : kW E G ws cu su (pc + 1) lv (.int (x &&& y) :: stk)) : kW E G ws cu su (pc) lv (.int y :: .int x :: stk) := by
  obtain ⟨l, D, A, tys⟩ := E
  obtain ⟨p, e, R, s, m, args, below, meth, c, nL, Q⟩ := G
  obtain ⟨⟨hx, hb, hml, hown, hts⟩, hK, hR, hn0, hA⟩ := C
  intro H locs ls hP hD hS hl
  exact lv_iand hx hb hd (k H locs ls hP hD hS hl)
theorem k_i2l (C : kC E G cc own Ts rm n0) {x : Int32} (hd : decode cc pc = .ok (.i2l, 1)) (k : kW E G ws cu su (pc + 1) lv (.long x.toInt64 :: stk)) : kW E G ws cu su (pc) lv (.int x :: stk) := by
  obtain ⟨l, D, A, tys⟩ := E
  obtain ⟨p, e, R, s, m, args, below, meth, c, nL, Q⟩ := G
  obtain ⟨⟨hx, hb, hml, hown, hts⟩, hK, hR, hn0, hA⟩ := C
  intro H locs ls hP hD hS hl
  exact lv_i2l hx hb hd rfl (k H locs ls hP hD hS hl)
theorem k_lcmp (C : kC E G cc own Ts rm n0) {x y : Int64} (hd : decode cc pc = .ok (.lcmp, 1)) (k : kW E G ws cu su (pc + 1) lv (.int (lg_cmp x y) :: stk)) : kW E G ws cu su (pc) lv (.long y :: .long x :: stk) := by
  obtain ⟨l, D, A, tys⟩ := E
  obtain ⟨p, e, R, s, m, args, below, meth, c, nL, Q⟩ := G
  obtain ⟨⟨hx, hb, hml, hown, hts⟩, hK, hR, hn0, hA⟩ := C
  intro H locs ls hP hD hS hl
  exact W.lcmp hx hb hd (k H locs ls hP hD hS hl)
theorem k_f2d (C : kC E G cc own Ts rm n0) {x : UInt32} (hd : decode cc pc = .ok (.f2d, 1)) (hne : vf_n64 (FP.f2d x)) (k : kW E G ws cu su (pc + 1) lv (.double (FP.f2d x) :: stk)) : kW E G ws cu su (pc) lv (.float x :: stk) := by
  obtain ⟨l, D, A, tys⟩ := E
  obtain ⟨p, e, R, s, m, args, below, meth, c, nL, Q⟩ := G
  obtain ⟨⟨hx, hb, hml, hown, hts⟩, hK, hR, hn0, hA⟩ := C
  intro H locs ls hP hD hS hl
  exact lv_f2d hx hb hd hne (k H locs ls hP hD hS hl)
theorem k_dcmp (C : kC E G cc own Ts rm n0) {x y : UInt64} {op : CmpOp} (hd : decode cc pc = .ok (.dcmp op, 1)) (k : kW E G ws cu su (pc + 1) lv (.int (Op.cmpValue (FP.dcmp x y) op) :: stk)) : kW E G ws cu su (pc) lv (.double y :: .double x :: stk) := by
  obtain ⟨l, D, A, tys⟩ := E
  obtain ⟨p, e, R, s, m, args, below, meth, c, nL, Q⟩ := G
  obtain ⟨⟨hx, hb, hml, hown, hts⟩, hK, hR, hn0, hA⟩ := C
  intro H locs ls hP hD hS hl
  exact lv_dcmp hx hb hd (k H locs ls hP hD hS hl)
theorem k_dup (C : kC E G cc own Ts rm n0) {va : Value} (hd : decode cc pc = .ok (.dup, 1)) (hc : va.category = 1) (k : kW E G ws cu su (pc + 1) lv (va :: va :: stk)) : kW E G ws cu su (pc) lv (va :: stk) := by
  obtain ⟨l, D, A, tys⟩ := E
  obtain ⟨p, e, R, s, m, args, below, meth, c, nL, Q⟩ := G
  obtain ⟨⟨hx, hb, hml, hown, hts⟩, hK, hR, hn0, hA⟩ := C
  intro H locs ls hP hD hS hl
  exact lv_dup hx hb hd hc (k H locs ls hP hD hS hl)
theorem k_goto (C : kC E G cc own Ts rm n0) {off : Int} (tgt : Nat) (hd : decode cc pc = .ok (.goto off, 3)) (ht : (pc : Int) + off = (tgt : Int)) (k : kW E G ws cu su (tgt) lv (stk)) : kW E G ws cu su (pc) lv (stk) := by
  obtain ⟨l, D, A, tys⟩ := E
  obtain ⟨p, e, R, s, m, args, below, meth, c, nL, Q⟩ := G
  obtain ⟨⟨hx, hb, hml, hown, hts⟩, hK, hR, hn0, hA⟩ := C
  intro H locs ls hP hD hS hl
  exact lv_goto hx hb hd ht (k H locs ls hP hD hS hl)
theorem k_tabIn (C : kC E G cc own Ts rm n0) {dflt lo hi : Int} {offs : Array Int} {len : Nat} {x : Int32} {off : Int} (tgt : Nat) (hd : decode cc pc = .ok (.tableswitch dflt lo hi offs, len)) (h1 : ¬ x.toInt < lo) (h2 : ¬ hi < x.toInt) (ho : offs[(x.toInt - lo).toNat]? = some off) (ht : (pc : Int) + off = (tgt : Int)) (k : kW E G ws cu su (tgt) lv (stk)) : kW E G ws cu su (pc) lv (.int x :: stk) := by
  obtain ⟨l, D, A, tys⟩ := E
  obtain ⟨p, e, R, s, m, args, below, meth, c, nL, Q⟩ := G
  obtain ⟨⟨hx, hb, hml, hown, hts⟩, hK, hR, hn0, hA⟩ := C
  intro H locs ls hP hD hS hl
  exact lv_tableIn hx hb hd h1 h2 ho ht (k H locs ls hP hD hS hl)
theorem k_if_eq (C : kC E G cc own Ts rm n0) {x : Int32} {off : Int} (tgt : Nat) (hd : decode cc pc = .ok (.ifCond .eq off, 3)) (ht : (pc : Int) + off = (tgt : Int)) (kX : x = 0 → kW E G ws cu su (tgt) lv (stk)) (kY : ¬ x = 0 → kW E G ws cu su (pc + 3) lv (stk)) : kW E G ws cu su (pc) lv (.int x :: stk) := by
  obtain ⟨l, D, A, tys⟩ := E
  obtain ⟨p, e, R, s, m, args, below, meth, c, nL, Q⟩ := G
  obtain ⟨⟨hx, hb, hml, hown, hts⟩, hK, hR, hn0, hA⟩ := C
  intro H locs ls hP hD hS hl
  exact lv_if_eq hx hb hd ht (fun h => kX h H locs ls hP hD hS hl) (fun h => kY h H locs ls hP hD hS hl)
theorem k_if_ne (C : kC E G cc own Ts rm n0) {x : Int32} {off : Int} (tgt : Nat) (hd : decode cc pc = .ok (.ifCond .ne off, 3)) (ht : (pc : Int) + off = (tgt : Int)) (kX : ¬ x = 0 → kW E G ws cu su (tgt) lv (stk)) (kY : x = 0 → kW E G ws cu su (pc + 3) lv (stk)) : kW E G ws cu su (pc) lv (.int x :: stk) := by
  obtain ⟨l, D, A, tys⟩ := E
  obtain ⟨p, e, R, s, m, args, below, meth, c, nL, Q⟩ := G
  obtain ⟨⟨hx, hb, hml, hown, hts⟩, hK, hR, hn0, hA⟩ := C
  intro H locs ls hP hD hS hl
  exact lv_if_ne hx hb hd ht (fun h => kX h H locs ls hP hD hS hl) (fun h => kY h H locs ls hP hD hS hl)
theorem k_icmp_eq (C : kC E G cc own Ts rm n0) {x y : Int32} {off : Int} (tgt : Nat) (hd : decode cc pc = .ok (.if_icmp .eq off, 3)) (ht : (pc : Int) + off = (tgt : Int)) (kX : x = y → kW E G ws cu su (tgt) lv (stk)) (kY : ¬ x = y → kW E G ws cu su (pc + 3) lv (stk)) : kW E G ws cu su (pc) lv (.int y :: .int x :: stk) := by
  obtain ⟨l, D, A, tys⟩ := E
  obtain ⟨p, e, R, s, m, args, below, meth, c, nL, Q⟩ := G
  obtain ⟨⟨hx, hb, hml, hown, hts⟩, hK, hR, hn0, hA⟩ := C
  intro H locs ls hP hD hS hl
  exact lv_icmp_eq hx hb hd ht (fun h => kX h H locs ls hP hD hS hl) (fun h => kY h H locs ls hP hD hS hl)
theorem k_icmp_ge (C : kC E G cc own Ts rm n0) {x y : Int32} {off : Int} (tgt : Nat) (hd : decode cc pc = .ok (.if_icmp .ge off, 3)) (ht : (pc : Int) + off = (tgt : Int)) (kX : y ≤ x → kW E G ws cu su (tgt) lv (stk)) (kY : ¬ (y ≤ x) → kW E G ws cu su (pc + 3) lv (stk)) : kW E G ws cu su (pc) lv (.int y :: .int x :: stk) := by
  obtain ⟨l, D, A, tys⟩ := E
  obtain ⟨p, e, R, s, m, args, below, meth, c, nL, Q⟩ := G
  obtain ⟨⟨hx, hb, hml, hown, hts⟩, hK, hR, hn0, hA⟩ := C
  intro H locs ls hP hD hS hl
  exact lv_icmp_ge hx hb hd ht (fun h => kX h H locs ls hP hD hS hl) (fun h => kY h H locs ls hP hD hS hl)
theorem k_icmp_gt (C : kC E G cc own Ts rm n0) {x y : Int32} {off : Int} (tgt : Nat) (hd : decode cc pc = .ok (.if_icmp .gt off, 3)) (ht : (pc : Int) + off = (tgt : Int)) (kX : y < x → kW E G ws cu su (tgt) lv (stk)) (kY : ¬ (y < x) → kW E G ws cu su (pc + 3) lv (stk)) : kW E G ws cu su (pc) lv (.int y :: .int x :: stk) := by
  obtain ⟨l, D, A, tys⟩ := E
  obtain ⟨p, e, R, s, m, args, below, meth, c, nL, Q⟩ := G
  obtain ⟨⟨hx, hb, hml, hown, hts⟩, hK, hR, hn0, hA⟩ := C
  intro H locs ls hP hD hS hl
  exact lv_icmp_gt hx hb hd ht (fun h => kX h H locs ls hP hD hS hl) (fun h => kY h H locs ls hP hD hS hl)
/-- Object.<init> -/
theorem k_obj (C : kC E G cc own Ts rm n0) {idx a : Nat} (h1 : Cond.methodLink own idx objectInit ∈ Ts) (h2 : Cond.instanceMethod objectInit ∈ Ts) (h3 : Cond.code objectInit ⟨#[0xb1]⟩ 1 none ∈ Ts) (h4 : 1 ≤ rm.frames) (h5 : (stk.map fun v => v.category).sum + 12 ≤ rm.locals) (hd : decode cc pc = .ok (.invokespecial idx, 3)) (k : kW E G ws cu su (pc + 3) lv (stk)) : kW E G ws cu su (pc) lv (.ref a :: stk) := by
  obtain ⟨l, D, A, tys⟩ := E
  obtain ⟨p, e, R, s, m, args, below, meth, c, nL, Q⟩ := G
  obtain ⟨⟨hx, hb, hml, hown, hts⟩, hK, hR, hn0, hA⟩ := C
  intro H locs ls hP hD hS hl
  subst hR
  exact W.objInit hx hb hown (hts _ h1) (hts _ h2) (hts _ h3) rfl (by rw [hml]; exact hl.1) rfl hd h4 (by show 2 * 0 + _ + 12 ≤ _; omega) (k H locs ls hP hD hS hl)
/-- a new row of numbers; its class is the one that the tables know -/
theorem k_newa (C : kC E G cc own Ts rm n0) {atype : ArrayType} {ty : FieldType} {n : Int32} {N' : Nat} {a0 : vp_A} {cA : ClassId} (t0 : Nat) (harr : Cond.arrayClass ty ∈ Ts) (hty : newarray.typeOf atype = ty) (ht : E.2.2.2[t0]? = some (cA, ty)) (hra : ∀ (U : State) (c : ClassId), va_RA U c ty → U.vm.findClass ("[" ++ ty.toString) = some c)
    (ha : ∀ cA : ClassId, vp_cell cA a0 = arrV cA N' (fun _ => defaultValue ty)) (hn : ¬ n < 0) (hN : n.toNatClampNeg = N') (hby : N' * componentBytes ty ≤ 536870912) (hc : cu + 1 ≤ rm.cells) (hs : su + N' ≤ rm.slots) (hd : decode cc pc = .ok (.newarray atype, 2))
    (k : ∀ q : Nat, kW E G (ws ++ [(q, .inl (cA, a0))]) (cu + 1) (su + N') (pc + 2) lv (.ref q :: stk)) : kW E G ws cu su (pc) lv (.int n :: stk) := by
  obtain ⟨l, D, A, tys⟩ := E
  obtain ⟨p, e, R, s, m, args, below, meth, c, nL, Q⟩ := G
  obtain ⟨⟨hx, hb, hml, hown, hts⟩, hK, hR, hn0, hA⟩ := C
  intro H locs ls hP hD hS hl
  subst hR
  subst hty
  refine va_newa hx hb (hts _ harr) rfl hK hP hD hS hA ha hn hN hby hc hs hd (fun q cB H1 hK1 hP1 hD1 hS1 => ?_)
  have e1 := hra _ _ (hK.2 t0 _ ht).2
  have e2 := hra _ _ (hK1.2 tys.length (cB, newarray.typeOf atype) (by rw [List.getElem?_append_right (Nat.le_refl _), Nat.sub_self]; rfl)).2
  obtain rfl : cA = cB := Option.some.inj (e1.symm.trans e2)
  exact k q H1 locs ls hP1 hD1 hS1 hl
theorem k_new (C : kC E G cc own Ts rm n0) {Cn : String} {T : u_T} {N ci index : Nat} {fs : List Value} (hin : ∀ w ∈ u_ws Cn T N, w ∈ Ts) (ty : Nat → FieldType) (hty : ∀ k, k < N → parseFieldDescriptor (T k).2.2.1 = some (ty k)) (h1 : Cond.classLink own index Cn ∈ Ts) (h2 : Cond.instantiable Cn N ∈ Ts) (h3 : Cond.initialized Cn ∈ Ts) (hc : vwCl[ci]? = some (Cn, T, N)) (hfs : ∀ j, j < N → defaultValue (ty j) = vp_V fs j) (h4 : cu + 1 ≤ rm.cells) (h5 : su + N ≤ rm.slots) (hd : decode cc pc = .ok (.new index, 3))
    (k : ∀ q : Nat, kW E G (ws ++ [(q, .inr (ci, fs))]) (cu + 1) (su + N) (pc + 3) lv (.ref q :: stk)) : kW E G ws cu su (pc) lv (stk) := by
  obtain ⟨l, D, A, tys⟩ := E
  obtain ⟨p, e, R, s, m, args, below, meth, c, nL, Q⟩ := G
  obtain ⟨⟨hx, hb, hml, hown, hts⟩, hK, hR, hn0, hA⟩ := C
  intro H locs ls hP hD hS hl
  subst hR
  exact va_new hx hb hts hin ty hty hown (hts _ h1) (hts _ h2) (hts _ h3) hK hP hD hS hA hc hfs h4 h5 hd (fun q H1 hP1 hD1 hS1 => k q H1 locs ls hP1 hD1 hS1 hl)
theorem k_putF (C : kC E G cc own Ts rm n0) {ref Cn : String} {T : u_T} {N ci index : Nat} {fs : List Value} {a q0 : Nat} {v : Value} {ty : FieldType} (k0 : Nat) (ws2 : va_W) (hin : ∀ w ∈ u_ws Cn T N, w ∈ Ts) (ty0 : Nat → FieldType) (hty : ∀ k, k < N → parseFieldDescriptor (T k).2.2.1 = some (ty0 k)) (hnm : ∀ a, a < N → ∀ b, b < N → a ≠ b → (T a).2.1 ≠ (T b).2.1) (he : ws[q0]? = some (a, .inr (ci, fs))) (hset : ws.set q0 (a, .inr (ci, fs.set k0 v)) = ws2) (hc : vwCl[ci]? = some (Cn, T, N)) (hk : k0 < N) (hw : Cond.fieldLink own index ref (T k0).2.1 (T k0).2.2.1 ∈ Ts) (hr : (T k0).1 = ref) (hfin : (T k0).2.2.2 = true) (hm : (gMe G).name = "<init>") (hdl : (T k0).1 = own) (ht : parseFieldDescriptor (T k0).2.2.1 = some ty) (hn : narrow ty v = v) (hfit : fits ty v = true) (hlen : k0 < fs.length) (hd : decode cc pc = .ok (.putfield index, 3)) (k : kW E G ws2 cu su (pc + 3) lv (stk)) : kW E G ws cu su (pc) lv (v :: .ref a :: stk) := by
  obtain ⟨l, D, A, tys⟩ := E
  obtain ⟨p, e, R, s, m, args, below, meth, c, nL, Q⟩ := G
  obtain ⟨⟨hx, hb, hml, hown, hts⟩, hK, hR, hn0, hA⟩ := C
  intro H locs ls hP hD hS hl
  subst hset
  exact va_putF hx hb hts hin ty0 hty hnm hown hK hP hD hS q0 he hc k0 hk (hts _ hw) (fun _ h9 => by rw [← hr]; exact h9) hfin hm hdl ht hn hfit hlen hd (fun H1 locs1 p1 d1 s1 => k H1 locs1 ls p1 d1 s1 hl)
theorem k_put (C : kC E G cc own Ts rm n0) {ref Cn : String} {T : u_T} {N ci index : Nat} {fs : List Value} {a q0 : Nat} {v : Value} {ty : FieldType} (k0 : Nat) (ws2 : va_W) (hin : ∀ w ∈ u_ws Cn T N, w ∈ Ts) (ty0 : Nat → FieldType) (hty : ∀ k, k < N → parseFieldDescriptor (T k).2.2.1 = some (ty0 k)) (hnm : ∀ a, a < N → ∀ b, b < N → a ≠ b → (T a).2.1 ≠ (T b).2.1) (he : ws[q0]? = some (a, .inr (ci, fs))) (hset : ws.set q0 (a, .inr (ci, fs.set k0 v)) = ws2) (hc : vwCl[ci]? = some (Cn, T, N)) (hk : k0 < N) (hw : Cond.fieldLink own index ref (T k0).2.1 (T k0).2.2.1 ∈ Ts) (hr : (T k0).1 = ref) (hfin : (T k0).2.2.2 = false) (ht : parseFieldDescriptor (T k0).2.2.1 = some ty) (hn : narrow ty v = v) (hfit : fits ty v = true) (hlen : k0 < fs.length) (hd : decode cc pc = .ok (.putfield index, 3)) (k : kW E G ws2 cu su (pc + 3) lv (stk)) : kW E G ws cu su (pc) lv (v :: .ref a :: stk) := by
  obtain ⟨l, D, A, tys⟩ := E
  obtain ⟨p, e, R, s, m, args, below, meth, c, nL, Q⟩ := G
  obtain ⟨⟨hx, hb, hml, hown, hts⟩, hK, hR, hn0, hA⟩ := C
  intro H locs ls hP hD hS hl
  subst hset
  exact va_put hx hb hts hin ty0 hty hnm hown hK hP hD hS q0 he hc k0 hk (hts _ hw) (fun _ h9 => by rw [← hr]; exact h9) hfin ht hn hfit hlen hd (fun H1 locs1 p1 d1 s1 => k H1 locs1 ls p1 d1 s1 hl)
theorem k_get (C : kC E G cc own Ts rm n0) {ref Cn : String} {T : u_T} {N ci index : Nat} {fs : List Value} {a q0 : Nat} {v : Value} (k0 : Nat) (hin : ∀ w ∈ u_ws Cn T N, w ∈ Ts) (he : ws[q0]? = some (a, .inr (ci, fs))) (hc : vwCl[ci]? = some (Cn, T, N)) (hk : k0 < N) (hw : Cond.fieldLink own index ref (T k0).2.1 (T k0).2.2.1 ∈ Ts) (hr : (T k0).1 = ref) (hv : fs[k0]? = some v) (hd : decode cc pc = .ok (.getfield index, 3)) (k : kW E G ws cu su (pc + 3) lv (v :: stk)) : kW E G ws cu su (pc) lv (.ref a :: stk) := by
  obtain ⟨l, D, A, tys⟩ := E
  obtain ⟨p, e, R, s, m, args, below, meth, c, nL, Q⟩ := G
  obtain ⟨⟨hx, hb, hml, hown, hts⟩, hK, hR, hn0, hA⟩ := C
  intro H locs ls hP hD hS hl
  exact va_get hx hb hts hin hown hK hP q0 he hc k0 hk (hts _ hw) (fun _ h9 => by rw [← hr]; exact h9) hv hd (k H locs ls hP hD hS hl)
theorem k_iast (C : kC E G cc own Ts rm n0) {a q0 n : Nat} {cA : ClassId} {f : Nat → Int32} {i x : Int32} (t0 : Nat) (ws2 : va_W) (he : ws[q0]? = some (a, .inl (cA, n, .inl f))) (ht : E.2.2.2[t0]? = some (cA, .int)) (hin : vp_in i n) (hset : ws.set q0 (a, .inl (cA, n, .inl (upd f i.toNatClampNeg x))) = ws2) (hd : decode cc pc = .ok (.iastore, 1)) (k : kW E G ws2 cu su (pc + 1) lv (stk)) : kW E G ws cu su (pc) lv (.int x :: .int i :: .ref a :: stk) := by
  obtain ⟨l, D, A, tys⟩ := E
  obtain ⟨p, e, R, s, m, args, below, meth, c, nL, Q⟩ := G
  obtain ⟨⟨hx, hb, hml, hown, hts⟩, hK, hR, hn0, hA⟩ := C
  intro H locs ls hP hD hS hl
  subst hset
  exact va_iast hx hb hK hP hD hS q0 t0 he ht hin hd (fun H1 locs1 p1 d1 s1 => k H1 locs1 ls p1 d1 s1 hl)
theorem k_zast (C : kC E G cc own Ts rm n0) {a q0 n : Nat} {cA : ClassId} {f : Nat → Int32} {i x : Int32} (t0 : Nat) (ws2 : va_W) (he : ws[q0]? = some (a, .inl (cA, n, .inl f))) (ht : E.2.2.2[t0]? = some (cA, .boolean)) (hin : vp_in i n) (hset : ws.set q0 (a, .inl (cA, n, .inl (upd f i.toNatClampNeg (vp_nar .boolean x)))) = ws2) (hd : decode cc pc = .ok (.bastore, 1)) (k : kW E G ws2 cu su (pc + 1) lv (stk)) : kW E G ws cu su (pc) lv (.int x :: .int i :: .ref a :: stk) := by
  obtain ⟨l, D, A, tys⟩ := E
  obtain ⟨p, e, R, s, m, args, below, meth, c, nL, Q⟩ := G
  obtain ⟨⟨hx, hb, hml, hown, hts⟩, hK, hR, hn0, hA⟩ := C
  intro H locs ls hP hD hS hl
  subst hset
  exact va_zast hx hb hK hP hD hS q0 t0 he ht hin hd (fun H1 locs1 p1 d1 s1 => k H1 locs1 ls p1 d1 s1 hl)
/-- what a constructor owes: out of one cell of its class, a world of which 'post' holds -/
def cNew (l : Launch) (D : va_G) (tys : List (ClassId × FieldType)) (y : MethodName) (ws : List Cond) (rm : Room) (ci : Nat) (fs : List Value) (mc ms : Nat) (post : Nat → va_W → Prop) : Prop := ∀ (h0 sz : Nat), Met l y ws rm (va_Pc [.ref h0] (fun U => U.heap.size = sz ∧ va_P D vwCl [(h0, .inr (ci, fs))] U.heap ∧ va_K D vwCl tys U ∧ va_D (fun _ => True) [(h0, .inr (ci, fs))] ∧ NWC U)) (va_Qv (fun w : va_W => post h0 w) (fun w t => va_P D vwCl w t.heap ∧ va_D (va_A [(h0, .inr (ci, fs))] sz) w) (va_A [(h0, .inr (ci, fs))] sz)) mc ms (va_A [(h0, .inr (ci, fs))] sz)
theorem cNew_bl {D : va_G} {tys : List (ClassId × FieldType)} {h0 sz : Nat} {w : va_W} : FrameBlind (va_Pc [.ref h0] (fun U => U.heap.size = sz ∧ va_P D vwCl w U.heap ∧ va_K D vwCl tys U ∧ va_D (fun _ => True) w ∧ NWC U)) := fun a U g mk q => by
  obtain ⟨q0, q1, qP, qK, qD, qN⟩ := q
  exact ⟨q0, q1, qP, va_K.moved (u := U) (U := U.calling g mk a) (Vm.Alike.refl U.vm) qK, qD, NWC_same U (U.calling g mk a) rfl qN⟩
/-- a constructor of a nest mate is called -/
theorem k_callI (C : kC E G cc own Ts rm n0) (hN : NWC (gS G)) {y : MethodName} {bytes : ByteArray} {maxL index ci b mc ms iC : Nat} {w1 w1' : List Cond} {rm1 : Room} {fs : List Value} {post : Nat → va_W → Prop} {host : String} (wr : va_W) (isR : List Nat) (hM : cNew E.1 E.2.1 E.2.2.2 y w1 rm1 ci fs mc ms post) (hg : GoodIn Ts w1) (hw : w1 = Cond.code y bytes maxL none :: w1') (hnw : va_Nw (.methodLinkNest own index y host) (gS G)) (hini : Cond.initialized y.cls ∈ Ts) (hins : Cond.instanceMethod y ∈ Ts) (hy1 : y.name = "<init>") (hdd : y.cls ≠ "java/lang/invoke/MethodHandle" ∧ y.cls ≠ "java/lang/invoke/VarHandle" ∧ (parseMethodDescriptor y.desc).map (fun d => d.parameters.length) = some 0) (hrc : rm1.cells = mc) (hrs : rm1.slots = ms) (hR : rm1.frames + 1 ≤ rm.frames ∧ 8 + (maxL + 11) + rm1.locals ≤ rm.locals) (hmc : cu + mc ≤ rm.cells) (hms : su + ms ≤ rm.slots)
    (he : [iC].map (fun i => ws[i]?) = ([(b, .inr (ci, fs))] : va_W).map some) (hwr : isR.map (fun i => ws[i]?) = wr.map some) (hnd : va_nd isR = true) (hdis : ∀ i ∈ isR, i ∉ [iC]) (hcat : (stk.map fun v => v.category).sum ≤ 8) (hd : decode cc pc = .ok (.invokespecial index, 3))
    (k : ∀ w : va_W, post b w → kW E G (wr ++ w) (cu + mc) (su + ms) (pc + 3) lv stk) : kW E G ws cu su (pc) lv (.ref b :: stk) := by
  obtain ⟨l, D, A, tys⟩ := E
  obtain ⟨p, e, R, s, m, args, below, meth, c, nL, Q⟩ := G
  obtain ⟨⟨hx, hb, hml, hown, hts⟩, hK, hR, hn0, hA⟩ := C
  intro H locs ls hP hD hS hl
  subst hR
  have hPc : va_P D vwCl [(b, .inr (ci, fs))] H := hP.sub [iC] (by
    have : [iC].filterMap (fun i => ws[i]?) = ([iC].map (fun i => ws[i]?)).filterMap id := by rw [List.filterMap_map]; rfl
    rw [this, he]
    rfl)
  have hFc := va_free (wc := [(b, .inr (ci, fs))]) hD hS hA [iC] he
  have hDc : va_D (fun _ => True) [(b, (.inr (ci, fs) : va_E))] := ⟨fun i j p q hp hq _ => by
    have h1 : i < 1 := (List.getElem?_eq_some_iff.mp hp).1
    have h2 : j < 1 := (List.getElem?_eq_some_iff.mp hq).1
    omega, fun _ _ _ => trivial⟩
  refine va_callv (va_runIN (host := host) (As := []) (rest := stk) ⟨hx, hb, hml, hown, hts⟩ (hM b H.size) ⟨va_cnB 0 hts hg hw hrc hrs hnw (hts _ hini) hdd hR, hy1, hts _ hins⟩ ⟨cNew_bl, fun U hU hW => ⟨rfl, by rw [hU], by rw [hU]; exact hPc, va_K.moved hW.alike hK, hDc, NWC_warm _ _ hW hN⟩⟩ rfl rfl hl.1 rfl (lv_room hcat) hd ⟨hmc, hms⟩) hS (fun q _ h => hFc q h) hFc (fun u t H1 locs1 ht hvm hpost hB hz1 hk1 hS1 => ?_)
  obtain ⟨hP1, hD1⟩ := hB
  rw [ht] at hP1
  obtain ⟨hP2, hD2⟩ := va_join hP hD [iC] isR he hwr hnd hdis hk1 hFc hP1 hD1
  exact k u hpost H1 locs1 ls hP2 hD2 hS1 hl
end KR
/-- a constructor's entry -/
theorem k_ent {l : Launch} {D : va_G} {tys : List (ClassId × FieldType)} {y : MethodName} {ws ws' : List Cond} {rm : Room} {ci : Nat} {fs : List Value} {mc ms maxL : Nat} {post : Nat → va_W → Prop} {cc : ByteArray} (hy : plainName y.cls = true) (hw : ws = Cond.code y cc maxL none :: ws') (hlen : 1 ≤ maxL) (hyn : y.name = "<init>")
    (body : ∀ (G : jG) (A : Nat → Prop) (h0 : Nat), kC (l, D, A, tys) G cc y.cls ws rm maxL → (gMe G).name = "<init>" → NWC (gS G) → (∀ (pc : Nat) (lv : List (Nat × Value)) (w : va_W) (cu su : Nat), cu ≤ mc → su ≤ ms → post h0 w → decode cc pc = .ok (.return_, 1) → kW (l, D, A, tys) G w cu su pc lv []) → kW (l, D, A, tys) G [(h0, .inr (ci, fs))] 0 0 0 [(0, .ref h0)] []) : cNew l D tys y ws rm ci fs mc ms post := by
  intro h0 sz
  refine Met.ofW (cc := cc) (maxL := maxL) (ret := none) hy hw ?_
  intro p e s m args below meth c s₁ B hml hv
  obtain ⟨rfl, hsz, hP, hK, hD0, hN⟩ := hv
  subst hsz
  have hx := B.exec
  have hb := B.bytes
  have hr := B.returns
  have hts := atoms_spec (ws := ws) B.pre
  have hown : s.vm.findClass y.cls = some m.cls := findClass_of_methodNamed B.named
  have hlocks := B.notSynchronized
  have hnm : meth.name = "<init>" := by rw [← hyn]; exact (name_of_methodNamed B.named B.method).1
  have hD := hD0.self (sz := s.heap.size)
  have hl := lv_entry [.ref h0] (n := maxL) hlen
  rw [lg_entry_eq]
  refine body (p, e, rm, s, m, [Value.ref h0].toArray, below, meth, c, maxL, MQ below (va_Qv (fun w : va_W => post h0 w) (fun w t => va_P D vwCl w t.heap ∧ va_D (va_A [(h0, .inr (ci, fs))] s.heap.size) w) (va_A [(h0, .inr (ci, fs))] s.heap.size)) [Value.ref h0].toArray s mc ms (va_A [(h0, .inr (ci, fs))] s.heap.size)) (va_A [(h0, .inr (ci, fs))] s.heap.size) h0 ⟨⟨hx, hb, hml, hown, hts⟩, hK, rfl, rfl, fun q hq => Or.inr hq⟩ hnm hN ?_ s.heap [] _ hP hD va_S.rf hl
  intro pc lv w cu su hcu hsu hpost hd H locs ls hP hD hS hl
  refine W.widen hcu hsu ?_
  exact W.vret hx hb hr (fun t ht hW => ⟨⟨w, rfl, hpost, by rw [ht]; exact hP, hD⟩, hS.F ht⟩) hS.2.2 hd
