/-! CALLS OF THE LAW: contracts of the J layer on a part of an explicit world; the law's own two methods, which catch -/
abbrev gC (G : jG) : Code := G.2.2.2.2.2.2.2.2.1
theorem aa_A {n : Nat} {ad : Nat → Nat} {w : va_W} (h : w.map (fun q => q.1) = (List.range n).map ad) : ∀ sz q, AAof n ad sz q → va_A w sz q := by
  intro sz q hq
  rcases hq with ⟨i, hi, rfl⟩ | hq
  · have h1 : (w.map (fun q => q.1))[i]? = some (ad i) := by
      rw [h, List.getElem?_map, List.getElem?_range hi]
      rfl
    rw [List.getElem?_map] at h1
    cases hw : w[i]? with
    | none => rw [hw] at h1; cases h1
    | some q0 =>
      rw [hw] at h1
      have e : q0.1 = ad i := Option.some.inj h1
      exact Or.inl ⟨i, q0.2, by rw [hw, ← e]⟩
  · exact Or.inr hq
theorem kw_sub {D : va_G} {ws wc : va_W} (isC : List Nat) (h : isC.map (fun i => ws[i]?) = wc.map some) {H : Heap} (hP : va_P D vwCl ws H) : va_P D vwCl wc H := hP.sub isC (by
  have e1 : isC.filterMap (fun i => ws[i]?) = (isC.map (fun i => ws[i]?)).filterMap id := by rw [List.filterMap_map]; rfl
  rw [e1, h]
  simp)
section KC
variable {l : Launch} {D : va_G} {A : Nat → Prop} {tys : List (ClassId × FieldType)} {G : jG} {cc : ByteArray} {own : String} {Ts : List Cond} {rm : Room} {n0 : Nat} {ws : va_W} {cu su : Nat} {pc : Nat} {lv : List (Nat × Value)} {stk : List Value}
theorem k_wide {cu2 su2 : Nat} (h1 : cu ≤ cu2) (h2 : su ≤ su2) (k : kW (l, D, A, tys) G ws cu2 su2 pc lv stk) : kW (l, D, A, tys) G ws cu su pc lv stk := by
  obtain ⟨p, e, R, s, m, args, below, meth, c, nL, Q⟩ := G
  exact fun H locs ls hP hD hS hl => W.widen h1 h2 (k H locs ls hP hD hS hl)
theorem k_sub (ps : List Nat) {lv2 : List (Nat × Value)} (h : lv_pick lv ps = lv2) (k : kW (l, D, A, tys) G ws cu su pc lv2 stk) : kW (l, D, A, tys) G ws cu su pc lv stk := by
  obtain ⟨p, e, R, s, m, args, below, meth, c, nL, Q⟩ := G
  exact fun H locs ls hP hD hS hl => k H locs ls hP hD hS (lv_sub hl ps h)
/-- the script -/
theorem k_sld (C : kC (l, D, A, tys) G cc own Ts rm n0) {b L : Nat} {xs : Nat → Int32} (hX : va_X b L xs (gS G) (gS G).heap) (hbl : b < (gS G).heap.size) (hbA : ¬ A b) {i : Int32} (hin : vp_in i L) (hd : decode cc pc = .ok (.iaload, 1)) (k : kW (l, D, A, tys) G ws cu su (pc + 1) lv (.int (xs (ix i)) :: stk)) : kW (l, D, A, tys) G ws cu su pc lv (.int i :: .ref b :: stk) := by
  obtain ⟨p, e, R, s, m, args, below, meth, c, nL, Q⟩ := G
  obtain ⟨⟨hx, hb, hml, hown, hts⟩, hK, hR, hn0, hA⟩ := C
  intro H locs ls hP hD hS hl
  exact va_sld hx hb hX hbl hbA hS hin hd (k H locs ls hP hD hS hl)
theorem k_slen (C : kC (l, D, A, tys) G cc own Ts rm n0) {b L : Nat} {xs : Nat → Int32} (hX : va_X b L xs (gS G) (gS G).heap) (hbl : b < (gS G).heap.size) (hbA : ¬ A b) (hd : decode cc pc = .ok (.arraylength, 1)) (k : kW (l, D, A, tys) G ws cu su (pc + 1) lv (.int (Int32.ofNat L) :: stk)) : kW (l, D, A, tys) G ws cu su pc lv (.ref b :: stk) := by
  obtain ⟨p, e, R, s, m, args, below, meth, c, nL, Q⟩ := G
  obtain ⟨⟨hx, hb, hml, hown, hts⟩, hK, hR, hn0, hA⟩ := C
  intro H locs ls hP hD hS hl
  exact va_slen hx hb hX hbl hbA hS hd (k H locs ls hP hD hS hl)
theorem k_lald (C : kC (l, D, A, tys) G cc own Ts rm n0) {a q0 n : Nat} {cA : ClassId} {f : Nat → Int64} {i : Int32} (t0 : Nat) (he : ws[q0]? = some (a, .inl (cA, n, .inr (.inl f)))) (ht : tys[t0]? = some (cA, .long)) (hin : vp_in i n) (hd : decode cc pc = .ok (.laload, 1)) (k : kW (l, D, A, tys) G ws cu su (pc + 1) lv (.long (f (ix i)) :: stk)) : kW (l, D, A, tys) G ws cu su pc lv (.int i :: .ref a :: stk) := by
  obtain ⟨p, e, R, s, m, args, below, meth, c, nL, Q⟩ := G
  obtain ⟨⟨hx, hb, hml, hown, hts⟩, hK, hR, hn0, hA⟩ := C
  intro H locs ls hP hD hS hl
  exact va_lald hx hb hK hP q0 t0 he ht hin hd (k H locs ls hP hD hS hl)
theorem k_last (C : kC (l, D, A, tys) G cc own Ts rm n0) {a q0 n : Nat} {cA : ClassId} {f : Nat → Int64} {i : Int32} {x : Int64} (t0 : Nat) (ws2 : va_W) (he : ws[q0]? = some (a, .inl (cA, n, .inr (.inl f)))) (ht : tys[t0]? = some (cA, .long)) (hin : vp_in i n) (hset : ws.set q0 (a, .inl (cA, n, .inr (.inl (vp_updL f i.toNatClampNeg x)))) = ws2) (hd : decode cc pc = .ok (.lastore, 1)) (k : kW (l, D, A, tys) G ws2 cu su (pc + 1) lv stk) : kW (l, D, A, tys) G ws cu su pc lv (.long x :: .int i :: .ref a :: stk) := by
  obtain ⟨p, e, R, s, m, args, below, meth, c, nL, Q⟩ := G
  obtain ⟨⟨hx, hb, hml, hown, hts⟩, hK, hR, hn0, hA⟩ := C
  intro H locs ls hP hD hS hl
  subst hset
  exact va_last hx hb hK hP hD hS q0 t0 he ht hin hd (fun H1 locs1 p1 d1 s1 => k H1 locs1 ls p1 d1 s1 hl)
/-- a constructor is called by its plain link -/
theorem k_callP (C : kC (l, D, A, tys) G cc own Ts rm n0) (hN : NWC (gS G)) {tj : List (ClassId × FieldType)} (isK : List Nat) (hsK : isK.filterMap (fun i => tys[i]?) = tj) {y : MethodName} {bytes : ByteArray} {maxL index ci b mc ms iC : Nat} {w1 w1' : List Cond} {rm1 : Room} {fs : List Value} {post : Nat → va_W → Prop} (wr : va_W) (isR : List Nat) (hM : cNew l D tj y w1 rm1 ci fs mc ms post) (hg : GoodIn Ts w1) (hw : w1 = Cond.code y bytes maxL none :: w1') (hlk : Cond.methodLink own index y ∈ Ts) (hini : Cond.initialized y.cls ∈ Ts) (hins : Cond.instanceMethod y ∈ Ts) (hy1 : y.name = "<init>") (hdd : y.cls ≠ "java/lang/invoke/MethodHandle" ∧ y.cls ≠ "java/lang/invoke/VarHandle" ∧ (parseMethodDescriptor y.desc).map (fun d => d.parameters.length) = some 0) (hrc : rm1.cells = mc) (hrs : rm1.slots = ms) (hR : rm1.frames + 1 ≤ rm.frames ∧ 8 + (maxL + 11) + rm1.locals ≤ rm.locals) (hmc : cu + mc ≤ rm.cells) (hms : su + ms ≤ rm.slots)
    (he : [iC].map (fun i => ws[i]?) = ([(b, .inr (ci, fs))] : va_W).map some) (hwr : isR.map (fun i => ws[i]?) = wr.map some) (hnd : va_nd isR = true) (hdis : ∀ i ∈ isR, i ∉ [iC]) (hcat : (stk.map fun v => v.category).sum ≤ 8) (hd : decode cc pc = .ok (.invokespecial index, 3))
    (k : ∀ w : va_W, post b w → kW (l, D, A, tys) G (wr ++ w) (cu + mc) (su + ms) (pc + 3) lv stk) : kW (l, D, A, tys) G ws cu su (pc) lv (.ref b :: stk) := by
  obtain ⟨p, e, R, s, m, args, below, meth, c, nL, Q⟩ := G
  obtain ⟨⟨hx, hb, hml, hown, hts⟩, hK, hR, hn0, hA⟩ := C
  intro H locs ls hP hD hS hl
  subst hR
  have hPc : va_P D vwCl [(b, .inr (ci, fs))] H := kw_sub [iC] he hP
  have hKj := hK.sub isK hsK
  have hFc := va_free (wc := [(b, .inr (ci, fs))]) hD hS hA [iC] he
  have hDc : va_D (fun _ => True) [(b, (.inr (ci, fs) : va_E))] := ⟨fun i j p q hp hq _ => by
    have h1 : i < 1 := (List.getElem?_eq_some_iff.mp hp).1
    have h2 : j < 1 := (List.getElem?_eq_some_iff.mp hq).1
    omega, fun _ _ _ => trivial⟩
  refine va_callv (va_runI (As := []) (rest := stk) ⟨hx, hb, hml, hown, hts⟩ (hM b H.size) (cwI 0 hts hg hw hrc hrs (hts _ hini) (hts _ hlk) (hts _ hins) hy1 hdd hR) ⟨cNew_bl, fun U hU hW => ⟨rfl, by rw [hU], by rw [hU]; exact hPc, va_K.moved hW.alike hKj, hDc, NWC_warm _ _ hW hN⟩⟩ rfl rfl hl.1 rfl (lv_room hcat) hd ⟨hmc, hms⟩) hS (fun q _ h => hFc q h) hFc (fun u t H1 locs1 ht hvm hpost hB hz1 hk1 hS1 => ?_)
  obtain ⟨hP1, hD1⟩ := hB
  rw [ht] at hP1
  obtain ⟨hP2, hD2⟩ := va_join hP hD [iC] isR he hwr hnd hdis hk1 hFc hP1 hD1
  exact k u hpost H1 locs1 ls hP2 hD2 hS1 hl
section Parts
variable {w : Mem → va_W} {AA : Nat → Nat → Prop} {tj : List (ClassId × FieldType)} {NW : State → Prop} {y : MethodName} {bytes : ByteArray} {maxL n index : Nat} {ret : Option FieldType} {w1 w1' : List Cond} {rm1 : Room} {K K1 : Mem} {a q0 ci : Nat} {Cn : String} {TT : u_T} {NN : Nat} {fs : List Value}
theorem k_cI (C : kC (l, D, A, tys) G cc own Ts rm n0) (hO : jOK (l, D, w, AA, tj, NW)) (hAV : ∀ K sz q, AA sz q → va_A (w K) sz q) (isK : List Nat) (hsK : isK.filterMap (fun i => tys[i]?) = tj) (hNj : NW (gS G)) {r1 : Int32} (As : List Value) (wr : va_W) (isC isR : List Nat) (hg : GoodIn Ts (wsV own index Cn y w1)) (hw : w1 = Cond.code y bytes maxL ret :: w1') (hdd : y.cls = Cn ∧ y.cls ≠ "java/lang/invoke/MethodHandle" ∧ y.cls ≠ "java/lang/invoke/VarHandle" ∧ (parseMethodDescriptor y.desc).map (fun d => d.parameters.length) = some n) (hR : (rm1.cells = 0 ∧ rm1.slots = 0) ∧ rm1.frames + 1 ≤ rm.frames ∧ 8 + (maxL + 11) + rm1.locals ≤ rm.locals) (hn : As.length = n) (he : (w K)[q0]? = some (a, .inr (ci, fs))) (hc : vwCl[ci]? = some (Cn, TT, NN)) (hM : cI (l, D, w, AA, tj, NW) y w1 rm1 (.ref a :: As) K r1 K1)
    (hwc : isC.map (fun i => ws[i]?) = (w K).map some) (hwr : isR.map (fun i => ws[i]?) = wr.map some) (hndC : va_nd isC = true) (hnd : va_nd isR = true) (hdis : ∀ i ∈ isR, i ∉ isC) (hcu : cu ≤ rm.cells) (hsu : su ≤ rm.slots) (hd : decode cc pc = .ok (.invokevirtual index, 3)) {stk0 : List Value} (hst : stk0 = As.reverse ++ .ref a :: stk) (hcat : (stk.map fun v => v.category).sum ≤ 8) (k : kW (l, D, A, tys) G (wr ++ w K1) cu su (pc + 3) lv (.int r1 :: stk)) : kW (l, D, A, tys) G ws cu su pc lv stk0 := by
  obtain ⟨p, e, R, s, m, args, below, meth, c, nL, Q⟩ := G
  obtain ⟨⟨hx, hb, hml, hown, hts⟩, hK, hR0, hn0, hA⟩ := C
  intro H locs ls hP hD hS hl
  subst hst
  subst hR0
  have hPc : va_P D vwCl (w K) H := kw_sub isC hwc hP
  have hDc := hD.sub isC hndC hwc
  have hKj := hK.sub isK hsK
  have hFc := va_free (wc := w K) hD hS hA isC hwc
  refine va_calli (va_runV (As := As) (rest := stk) ⟨hx, hb, hml, hown, hts⟩ (hM H.size) (cwV n hts hg hw hR.1.1 hR.1.2 hdd hR.2) ⟨jP_blind hO, va_recv hKj hPc hc he, jP_of hO hPc hDc hKj hNj⟩ rfl hn (hl.1) rfl (lv_room hcat) hd ⟨hcu, hsu⟩) hS (fun q _ h => hFc q (hAV K _ q h)) (fun q h => hFc q (hAV K _ q h)) (fun r u t H1 locs1 ht hvm hw hB hz1 hk1 hS1 => ?_)
  obtain ⟨rfl, rfl⟩ := hw
  obtain ⟨hP1, hD1⟩ := hB
  rw [ht] at hP1
  obtain ⟨hP2, hD2⟩ := va_join hP hD isC isR hwc hwr hnd hdis (fun q h1 h2 => hk1 q h1 (fun h => h2 (hAV K _ q h))) hFc hP1 (hD1.weaken (fun _ q _ h => hAV K _ _ h))
  exact k H1 locs1 ls hP2 hD2 hS1 hl
theorem k_cF (C : kC (l, D, A, tys) G cc own Ts rm n0) (hO : jOK (l, D, w, AA, tj, NW)) (hAV : ∀ K sz q, AA sz q → va_A (w K) sz q) (isK : List Nat) (hsK : isK.filterMap (fun i => tys[i]?) = tj) (hNj : NW (gS G)) {r1 : UInt32} (As : List Value) (wr : va_W) (isC isR : List Nat) (hg : GoodIn Ts (wsV own index Cn y w1)) (hw : w1 = Cond.code y bytes maxL ret :: w1') (hdd : y.cls = Cn ∧ y.cls ≠ "java/lang/invoke/MethodHandle" ∧ y.cls ≠ "java/lang/invoke/VarHandle" ∧ (parseMethodDescriptor y.desc).map (fun d => d.parameters.length) = some n) (hR : (rm1.cells = 0 ∧ rm1.slots = 0) ∧ rm1.frames + 1 ≤ rm.frames ∧ 8 + (maxL + 11) + rm1.locals ≤ rm.locals) (hn : As.length = n) (he : (w K)[q0]? = some (a, .inr (ci, fs))) (hc : vwCl[ci]? = some (Cn, TT, NN)) (hM : cF (l, D, w, AA, tj, NW) y w1 rm1 (.ref a :: As) K r1 K1)
    (hwc : isC.map (fun i => ws[i]?) = (w K).map some) (hwr : isR.map (fun i => ws[i]?) = wr.map some) (hndC : va_nd isC = true) (hnd : va_nd isR = true) (hdis : ∀ i ∈ isR, i ∉ isC) (hcu : cu ≤ rm.cells) (hsu : su ≤ rm.slots) (hd : decode cc pc = .ok (.invokevirtual index, 3)) {stk0 : List Value} (hst : stk0 = As.reverse ++ .ref a :: stk) (hcat : (stk.map fun v => v.category).sum ≤ 8) (k : kW (l, D, A, tys) G (wr ++ w K1) cu su (pc + 3) lv (.float r1 :: stk)) : kW (l, D, A, tys) G ws cu su pc lv stk0 := by
  obtain ⟨p, e, R, s, m, args, below, meth, c, nL, Q⟩ := G
  obtain ⟨⟨hx, hb, hml, hown, hts⟩, hK, hR0, hn0, hA⟩ := C
  intro H locs ls hP hD hS hl
  subst hst
  subst hR0
  have hPc : va_P D vwCl (w K) H := kw_sub isC hwc hP
  have hDc := hD.sub isC hndC hwc
  have hKj := hK.sub isK hsK
  have hFc := va_free (wc := w K) hD hS hA isC hwc
  refine va_callf (va_runV (As := As) (rest := stk) ⟨hx, hb, hml, hown, hts⟩ (hM H.size) (cwV n hts hg hw hR.1.1 hR.1.2 hdd hR.2) ⟨jP_blind hO, va_recv hKj hPc hc he, jP_of hO hPc hDc hKj hNj⟩ rfl hn (hl.1) rfl (lv_room hcat) hd ⟨hcu, hsu⟩) hS (fun q _ h => hFc q (hAV K _ q h)) (fun q h => hFc q (hAV K _ q h)) (fun r u t H1 locs1 ht hvm hw hB hz1 hk1 hS1 => ?_)
  obtain ⟨rfl, rfl⟩ := hw
  obtain ⟨hP1, hD1⟩ := hB
  rw [ht] at hP1
  obtain ⟨hP2, hD2⟩ := va_join hP hD isC isR hwc hwr hnd hdis (fun q h1 h2 => hk1 q h1 (fun h => h2 (hAV K _ q h))) hFc hP1 (hD1.weaken (fun _ q _ h => hAV K _ _ h))
  exact k H1 locs1 ls hP2 hD2 hS1 hl
end Parts
/-- something of class En was thrown over the frame -/
def kXW : kE → jG → va_W → Nat → Nat → Nat → List (Nat × Value) → List Value → String → Prop
  | (l, D, A, _), (p, e, R, s, m, args, below, meth, c, nL, Q), ws, cu, su, pc, lv, stk, En => ∀ (H : Heap) (locs : List Loc) (ls : Array Slot) (q9 : Nat) (ce : Cell), va_P D vwCl ws H → va_D A ws → va_S A s.heap H locs → lv_has ls nL lv → H[q9]? = some ce → ce.vm = .none → s.vm.findClass En = some ce.cls → vx_W p l e R s m args below meth c H locs cu su Q (F0 m pc ls stk) q9
theorem k_catch1 (C : kC (l, D, A, tys) G cc own Ts rm n0) {En name : String} (x : ExceptionTableEntry) (suf : List ExceptionTableEntry) (htab : (gC G).exceptionTable.toList = x :: suf) (hx : covers x pc = true) (h0 : x.catchType ≠ 0) (hlink : Cond.classLink own x.catchType name ∈ Ts) (hcast : va_Nw (.castable En name) (gS G)) (k : ∀ q : Nat, kW (l, D, A, tys) G ws cu su x.handlerPc lv [.ref q]) : kXW (l, D, A, tys) G ws cu su pc lv stk En := by
  obtain ⟨p, e, R, s, m, args, below, meth, c, nL, Q⟩ := G
  obtain ⟨⟨hx', hb, hml, hown, hts⟩, hK, hR, hn0, hA⟩ := C
  intro H locs ls q9 ce hP hD hS hl h1 h2 h3
  exact h_catch1 hown x suf htab hx h0 (hts _ hlink) (va_tabs rfl rfl hcast) h1 h2 h3 (k q9 H locs ls hP hD hS hl)
theorem k_catch2 (C : kC (l, D, A, tys) G cc own Ts rm n0) {En name nm : String} (z x : ExceptionTableEntry) (suf : List ExceptionTableEntry) (htab : (gC G).exceptionTable.toList = z :: x :: suf) (hz : covers z pc = true) (hz0 : z.catchType ≠ 0) (hzl : Cond.classLink own z.catchType nm ∈ Ts) (hno : va_Nc En nm (gS G)) (hx : covers x pc = true) (h0 : x.catchType ≠ 0) (hlink : Cond.classLink own x.catchType name ∈ Ts) (hcast : va_Nw (.castable En name) (gS G)) (k : ∀ q : Nat, kW (l, D, A, tys) G ws cu su x.handlerPc lv [.ref q]) : kXW (l, D, A, tys) G ws cu su pc lv stk En := by
  obtain ⟨p, e, R, s, m, args, below, meth, c, nL, Q⟩ := G
  obtain ⟨⟨hx', hb, hml, hown, hts⟩, hK, hR, hn0, hA⟩ := C
  intro H locs ls q9 ce hP hD hS hl h1 h2 h3
  exact h_catch2 hown z x suf htab hz hz0 (hts _ hzl) hno hx h0 (hts _ hlink) (va_tabs rfl rfl hcast) h1 h2 h3 (k q9 H locs ls hP hD hS hl)
theorem k_cX (C : kC (l, D, A, tys) G cc own Ts rm n0) {w : Mem → va_W} {AA : Nat → Nat → Prop} {tj : List (ClassId × FieldType)} {NW : State → Prop} (hO : jOK (l, D, w, AA, tj, NW)) (hAV : ∀ K sz q, AA sz q → va_A (w K) sz q) (isK : List Nat) (hsK : isK.filterMap (fun i => tys[i]?) = tj) (hNj : NW (gS G)) (hT : xT (gS G)) (hZ : xZ A (gS G) (gS G).heap) {y : MethodName} {bytes : ByteArray} {maxL n index : Nat} {ret : Option FieldType} {w1 w1' : List Cond} {rm1 : Room} {K K1 : Mem} {a q0 ci : Nat} {Cn : String} {TT : u_T} {NN : Nat} {fs : List Value} {ex : Option String} {r1 : Int32} (As : List Value) (wr : va_W) (isC isR : List Nat) (hg : GoodIn Ts (wsV own index Cn y w1)) (hw : w1 = Cond.code y bytes maxL ret :: w1') (hdd : y.cls = Cn ∧ y.cls ≠ "java/lang/invoke/MethodHandle" ∧ y.cls ≠ "java/lang/invoke/VarHandle" ∧ (parseMethodDescriptor y.desc).map (fun d => d.parameters.length) = some n) (hR : (rm1.cells = 1 ∧ rm1.slots = 6) ∧ rm1.frames + 1 ≤ rm.frames ∧ 8 + (maxL + 11) + rm1.locals ≤ rm.locals) (hn : As.length = n) (he : (w K)[q0]? = some (a, .inr (ci, fs))) (hc : vwCl[ci]? = some (Cn, TT, NN)) (hM : cX (l, D, w, AA, tj, NW) y w1 rm1 (.ref a :: As) K ex r1 K1)
    (hwc : isC.map (fun i => ws[i]?) = (w K).map some) (hwr : isR.map (fun i => ws[i]?) = wr.map some) (hndC : va_nd isC = true) (hnd : va_nd isR = true) (hdis : ∀ i ∈ isR, i ∉ isC) (hcu : cu + 1 ≤ rm.cells) (hsu : su + 6 ≤ rm.slots) (hd : decode cc pc = .ok (.invokevirtual index, 3)) {stk0 : List Value} (hst : stk0 = As.reverse ++ .ref a :: stk) (hcat : (stk.map fun v => v.category).sum ≤ 8) (k : ex = none → kW (l, D, A, tys) G (wr ++ w K1) (cu + 1) (su + 6) (pc + 3) lv (.int r1 :: stk)) (kx : ∀ En : String, ex = some En → kXW (l, D, A, tys) G (wr ++ w K1) (cu + 1) (su + 6) pc lv stk En) : kW (l, D, A, tys) G ws cu su pc lv stk0 := by
  obtain ⟨p, e, R, s, m, args, below, meth, c, nL, Q⟩ := G
  obtain ⟨⟨hx, hb, hml, hown, hts⟩, hK, hR0, hn0, hA⟩ := C
  intro H locs ls hP hD hS hl
  subst hst
  subst hR0
  have hPc : va_P D vwCl (w K) H := kw_sub isC hwc hP
  have hDc := hD.sub isC hndC hwc
  have hKj := hK.sub isK hsK
  have hFc := va_free (wc := w K) hD hS hA isC hwc
  have hFA : ∀ q, AA H.size q → A q := fun q h => hFc q (hAV K _ q h)
  refine vx_calli (vx_runV (As := As) (rest := stk) ⟨hx, hb, hml, hown, hts⟩ (hM H.size) (cwV n hts hg hw hR.1.1 hR.1.2 hdd hR.2) ⟨xP_blind hO, va_recv hKj hPc hc he, fun U hU hW => ⟨jP_of hO hPc hDc hKj hNj U hU hW, xT_warm hW hT, by rw [hU]; exact xZ_mv hW.alike (xZ_narrow (xZ_kept hZ hS.2.1) hFA)⟩⟩ rfl hn (hl.1) rfl (lv_room hcat) hd ⟨hcu, hsu⟩) hS (fun q _ h => hFA q h) hFA (fun q _ h => hFA q h) (fun En ce q9 u t H1 locs1 ht hvm hpx hB hz1 hk1 hS1 h1 h2 h3 => ?_) (fun r u t H1 locs1 ht hvm hw hB hz1 hk1 hS1 => ?_)
  · obtain ⟨hex, hP1, hD1⟩ := hB
    obtain rfl := hpx
    rw [ht] at hP1
    obtain ⟨hP2, hD2⟩ := va_join hP hD isC isR hwc hwr hnd hdis (fun q h1 h2 => hk1 q h1 (fun h => h2 (hAV K _ q h))) hFc hP1 (hD1.weaken (fun _ q _ h => hAV K _ _ h))
    exact kx En hex H1 locs1 ls q9 ce hP2 hD2 hS1 hl h1 h2 h3
  · obtain ⟨⟨hex, rfl⟩, rfl⟩ := hw
    obtain ⟨hP1, hD1⟩ := hB
    rw [ht] at hP1
    obtain ⟨hP2, hD2⟩ := va_join hP hD isC isR hwc hwr hnd hdis (fun q h1 h2 => hk1 q h1 (fun h => h2 (hAV K _ q h))) hFc hP1 (hD1.weaken (fun _ q _ h => hAV K _ _ h))
    exact k hex H1 locs1 ls hP2 hD2 hS1 hl
/-- what the law's own methods owe: the code k, a long in the row -/
def lP (D : va_G) (tys : List (ClassId × FieldType)) (wK : va_W) (As : List Value) (sz : Nat) : Array Value → State → Prop := va_Pc As (fun U => U.heap.size = sz ∧ va_P D vwCl wK U.heap ∧ va_K D vwCl tys U ∧ va_D (va_A wK sz) wK ∧ NWC U ∧ xT U ∧ xZ (va_A wK sz) U U.heap ∧ va_Nc ISE IAE U)
def cLw (l : Launch) (D : va_G) (tys : List (ClassId × FieldType)) (y : MethodName) (ws : List Cond) (rm : Room) (As : List Value) (wK : va_W) (k : Int32) (w1 : (Nat → Int64) → va_W) (post : (Nat → Int64) → Prop) : Prop := ∀ sz, vx_Met l y ws rm (lP D tys wK As sz) (va_Qi (fun r (u : Nat → Int64) => r = k ∧ post u) (fun u t => va_P D vwCl (w1 u) t.heap ∧ va_D (va_A wK sz) (w1 u)) (va_A wK sz)) (vx_X (fun _ : Unit => False) (fun _ _ _ => True) (va_A wK sz)) 1 6 (va_A wK sz)
theorem lP_blind {wK : va_W} {As : List Value} {sz : Nat} : FrameBlind (lP D tys wK As sz) := fun a U g mk q => by
  obtain ⟨q0, q1, qP, qK, qD, qN, qT, qZ, qC⟩ := q
  exact ⟨q0, q1, qP, va_K.moved (u := U) (U := U.calling g mk a) (Vm.Alike.refl U.vm) qK, qD, NWC_same U (U.calling g mk a) rfl qN, xT_same (u := U) (U := U.calling g mk a) rfl qT, xZ_mv (U := U.calling g mk a) (Vm.Alike.refl U.vm) qZ, va_Nc.moved (U := U.calling g mk a) (Vm.Alike.refl U.vm) qC⟩
theorem k_entL {y : MethodName} {ws ws' : List Cond} {rm : Room} {As : List Value} {wK : va_W} {k : Int32} {w1 : (Nat → Int64) → va_W} {post : (Nat → Int64) → Prop} {maxL : Nat} {cc : ByteArray} {hh : List (Nat × Nat × Nat × Nat)} (hy : plainName y.cls = true) (hw : ws = Cond.codeWith y cc maxL (some .int) hh :: ws') (hlen : (lg_sl As).length ≤ maxL)
    (body : ∀ (G : jG) (A : Nat → Prop), kC (l, D, A, tys) G cc y.cls ws rm maxL → (gC G).exceptionTable.toList = tableOf hh → NWC (gS G) → xT (gS G) → xZ A (gS G) (gS G).heap → va_Nc ISE IAE (gS G) → (∀ (pc : Nat) (lv : List (Nat × Value)) (u : Nat → Int64), post u → decode cc pc = .ok (.ireturn, 1) → kW (l, D, A, tys) G (w1 u) 1 6 pc lv [.int k]) → kW (l, D, A, tys) G wK 0 0 0 (lv_args 0 As) []) : cLw l D tys y ws rm As wK k w1 post := by
  intro sz
  refine vx_ofWH (cc := cc) (maxL := maxL) (ret := some .int) (hh := hh) hy hw ?_
  intro p e s m args below meth c s₁ B hml hv
  obtain ⟨rfl, hsz, hP, hK, hD, hN, hT, hZ, hC⟩ := hv
  subst hsz
  have hx := B.exec
  have hb := B.bytes
  have hr := B.returns
  have hts := atoms_spec (ws := ws) B.pre
  have hown : s.vm.findClass y.cls = some m.cls := findClass_of_methodNamed B.named
  have hlocks := B.notSynchronized
  have htab : c.exceptionTable.toList = tableOf hh := vx_table (x := y) B (hts _ (by rw [hw]; exact List.mem_cons_self))
  have hl := lv_entry As (n := maxL) hlen
  rw [lg_entry_eq]
  refine body (p, e, rm, s, m, As.toArray, below, meth, c, maxL, vx_MQ below (va_Qi (fun r (u : Nat → Int64) => r = k ∧ post u) (fun u t => va_P D vwCl (w1 u) t.heap ∧ va_D (va_A wK s.heap.size) (w1 u)) (va_A wK s.heap.size)) (vx_X (fun _ : Unit => False) (fun _ _ _ => True) (va_A wK s.heap.size)) As.toArray s 1 6 (va_A wK s.heap.size)) (va_A wK s.heap.size) ⟨⟨hx, hb, hml, hown, hts⟩, hK, rfl, rfl, fun q hq => Or.inr hq⟩ htab hN hT hZ hC ?_ s.heap [] _ hP hD va_S.rf hl
  intro pc lv u hu hd H locs ls hP hD hS hl
  exact vx_ret (W.iret hx hb hr (fun t ht hW => ⟨⟨k, u, rfl, ⟨rfl, hu⟩, by rw [ht]; exact hP, hD⟩, hS.F ht⟩) hS.2.2 hd)
theorem k_callL (C : kC (l, D, A, tys) G cc own Ts rm n0) (hN : NWC (gS G)) (hT : xT (gS G)) (hZ : xZ A (gS G) (gS G).heap) (hNc : va_Nc ISE IAE (gS G)) {tj : List (ClassId × FieldType)} (isK : List Nat) (hsK : isK.filterMap (fun i => tys[i]?) = tj) {y : MethodName} {bytes : ByteArray} {maxL n index : Nat} {ret : Option FieldType} {hh : List (Nat × Nat × Nat × Nat)} {wy wy' : List Cond} {rm1 : Room} {wK : va_W} {kd : Int32} {w1 : (Nat → Int64) → va_W} {post : (Nat → Int64) → Prop} (As : List Value) (wr : va_W) (isC isR : List Nat) (hM : cLw l D tj y wy rm1 As wK kd w1 post) (hg : GoodIn Ts (va_wsS own index y wy)) (hw : wy = Cond.codeWith y bytes maxL ret hh :: wy') (hdd : y.cls ≠ "java/lang/invoke/MethodHandle" ∧ y.cls ≠ "java/lang/invoke/VarHandle" ∧ (parseMethodDescriptor y.desc).map (fun d => d.parameters.length) = some n) (hR : (rm1.cells = 1 ∧ rm1.slots = 6) ∧ rm1.frames + 1 ≤ rm.frames ∧ 8 + (maxL + 11) + rm1.locals ≤ rm.locals) (hn : As.length = n)
    (hwc : isC.map (fun i => ws[i]?) = wK.map some) (hwr : isR.map (fun i => ws[i]?) = wr.map some) (hndC : va_nd isC = true) (hnd : va_nd isR = true) (hdis : ∀ i ∈ isR, i ∉ isC) (hcu : cu + 1 ≤ rm.cells) (hsu : su + 6 ≤ rm.slots) (hd : decode cc pc = .ok (.invokestatic index, 3)) {stk0 : List Value} (hst : stk0 = As.reverse ++ stk) (hcat : (stk.map fun v => v.category).sum ≤ 8) (k : ∀ u, post u → kW (l, D, A, tys) G (wr ++ w1 u) (cu + 1) (su + 6) (pc + 3) lv (.int kd :: stk)) : kW (l, D, A, tys) G ws cu su pc lv stk0 := by
  obtain ⟨p, e, R, s, m, args, below, meth, c, nL, Q⟩ := G
  obtain ⟨⟨hx, hb, hml, hown, hts⟩, hK, hR0, hn0, hA⟩ := C
  intro H locs ls hP hD hS hl
  subst hst
  subst hR0
  have hPc : va_P D vwCl wK H := kw_sub isC hwc hP
  have hDc := hD.sub isC hndC hwc
  have hKj := hK.sub isK hsK
  have hFc := va_free (wc := wK) hD hS hA isC hwc
  refine vx_calli (vx_runSX (hh := hh) (As := As) (rest := stk) ⟨hx, hb, hml, hown, hts⟩ (hM H.size) (vx_cwSW n hts hg hw hR.1.1 hR.1.2 hdd hR.2) ⟨lP_blind, fun U hU hW => ⟨rfl, by rw [hU], by rw [hU]; exact hPc, va_K.moved hW.alike hKj, hDc.self, NWC_warm _ _ hW hN, xT_warm hW hT, by rw [hU]; exact xZ_mv hW.alike (xZ_narrow (xZ_kept hZ hS.2.1) hFc), va_Nc.moved hW.alike hNc⟩⟩ rfl hn (hl.1) rfl (lv_room hcat) hd ⟨hcu, hsu⟩) hS (fun q _ h => hFc q h) hFc (fun q _ h => hFc q h) (fun En ce q9 u t H1 locs1 ht hvm hpx hB hz1 hk1 hS1 h1 h2 h3 => absurd hpx id) (fun r u t H1 locs1 ht hvm hw hB hz1 hk1 hS1 => ?_)
  obtain ⟨rfl, hu⟩ := hw
  obtain ⟨hP1, hD1⟩ := hB
  rw [ht] at hP1
  obtain ⟨hP2, hD2⟩ := va_join hP hD isC isR hwc hwr hnd hdis hk1 hFc hP1 hD1
  exact k u hu H1 locs1 ls hP2 hD2 hS1 hl
end KC
