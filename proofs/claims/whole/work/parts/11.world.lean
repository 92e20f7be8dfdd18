/-! THE WORLDS. wC: the class's cells (0 the object; 1 Plans, 2 cycles, 3 offsets, 4 splits; a Controller at b = 5 or 24: b+1 written, b+2 its row, b+3 table, b+4 its row, b+5 Detectors, b+6 onTimes, b+7 occupancies, b+8 Link, b+9 Inputs, b+10 on, b+11 targets, b+12 Monitor, b+13 shown, b+14 shownBefore, b+15 yellowTicks, b+16 ring0, b+17 ring1, b+18 faults). wM: the reference's (0 the object, k-1 the row of its field k). -/
abbrev eI (c : ClassId) (n : Nat) (f : Nat → Int32) : va_E := .inl (c, n, .inl f)
abbrev eF (c : ClassId) (n : Nat) (f : Nat → Int32) : va_E := .inl (c, n, .inr (.inr (.inl (fun j => (f j).toUInt32))))
abbrev e0 (ad : Nat → Nat) (f : Nat → Int32) : va_E := .inr (8, [.ref (ad 1), .ref (ad 5), .ref (ad 24), .int (f 3)])
abbrev e1 (ad : Nat → Nat) : va_E := .inr (5, [.ref (ad 2), .ref (ad 3), .ref (ad 4)])
abbrev eCt (ad : Nat → Nat) (b : Nat) (f : Nat → Int32) : va_E := .inr (0, [.ref (ad (b + 1)), .ref (ad (b + 3)), .ref (ad (b + 5)), .ref (ad (b + 8)), .ref (ad (b + 9)), .ref (ad (b + 12)), .ref (ad (b + 16)), .ref (ad (b + 17)), .ref (ad (b + 18)), .int (f 9), .int (f 10), .int (f 11), .int (f 12), .int (f 13), .int (f 14), .int (f 15)])
abbrev eTb (ad : Nat → Nat) (i : Nat) : va_E := .inr (7, [.ref (ad (i + 1))])
abbrev eDt (ad : Nat → Nat) (i : Nat) (f : Nat → Int32) : va_E := .inr (1, [.ref (ad (i + 1)), .ref (ad (i + 2)), .int (f 2), .int (f 3)])
abbrev eLk (f : Nat → Int32) : va_E := .inr (3, [.int (f 0), .int (f 1), .int (f 2), .int (f 3)])
abbrev eIn (ad : Nat → Nat) (i : Nat) : va_E := .inr (2, [.ref (ad (i + 1)), .ref (ad (i + 2))])
abbrev eMn (ad : Nat → Nat) (i : Nat) (f : Nat → Int32) : va_E := .inr (4, [.ref (ad (i + 1)), .ref (ad (i + 2)), .ref (ad (i + 3)), .int (f 3)])
abbrev eRg (f : Nat → Int32) : va_E := .inr (6, [.int (f 0), .int (f 1), .int (f 2), .int (f 3), .int (f 4), .int (f 5), .int (f 6), .int (f 7), .int (f 8), .int (f 9)])
def wC (ad : Nat → Nat) (aI aZ aF : ClassId) (K : Mem) : va_W := [(ad 0, e0 ad (K 0)), (ad 1, e1 ad), (ad 2, eI aI 4 (K 2)), (ad 3, eI aI 4 (K 3)), (ad 4, eI aI 4 (K 4)), (ad 5, eCt ad 5 (K 5)), (ad 6, eTb ad 6), (ad 7, eI aI 64 (K 7)), (ad 8, eTb ad 8), (ad 9, eI aI 64 (K 9)), (ad 10, eDt ad 10 (K 10)), (ad 11, eI aI 8 (K 11)), (ad 12, eF aF 8 (K 12)), (ad 13, eLk (K 13)), (ad 14, eIn ad 14), (ad 15, eI aZ 2 (K 15)), (ad 16, eI aI 2 (K 16)), (ad 17, eMn ad 17 (K 17)), (ad 18, eI aI 8 (K 18)), (ad 19, eI aI 8 (K 19)), (ad 20, eI aI 8 (K 20)), (ad 21, eRg (K 21)), (ad 22, eRg (K 22)), (ad 23, eI aI 8 (K 23)), (ad 24, eCt ad 24 (K 24)), (ad 25, eTb ad 25), (ad 26, eI aI 64 (K 26)), (ad 27, eTb ad 27), (ad 28, eI aI 64 (K 28)), (ad 29, eDt ad 29 (K 29)), (ad 30, eI aI 8 (K 30)), (ad 31, eF aF 8 (K 31)), (ad 32, eLk (K 32)), (ad 33, eIn ad 33), (ad 34, eI aZ 2 (K 34)), (ad 35, eI aI 2 (K 35)), (ad 36, eMn ad 36 (K 36)), (ad 37, eI aI 8 (K 37)), (ad 38, eI aI 8 (K 38)), (ad 39, eI aI 8 (K 39)), (ad 40, eRg (K 40)), (ad 41, eRg (K 41)), (ad 42, eI aI 8 (K 42))]
def isC (b : Nat) : Prop := b = 5 ∨ b = 24
def isT (i : Nat) : Prop := i = 6 ∨ i = 8 ∨ i = 25 ∨ i = 27
def isD (i : Nat) : Prop := i = 10 ∨ i = 29
def isL (i : Nat) : Prop := i = 13 ∨ i = 32
def isN (i : Nat) : Prop := i = 14 ∨ i = 33
def isM (i : Nat) : Prop := i = 17 ∨ i = 36
def isR (i : Nat) : Prop := i = 21 ∨ i = 22 ∨ i = 40 ∨ i = 41
theorem isC_T1 {b : Nat} (h : isC b) : isT (b + 1) := by rcases h with rfl | rfl <;> simp [isT]
theorem isC_T3 {b : Nat} (h : isC b) : isT (b + 3) := by rcases h with rfl | rfl <;> simp [isT]
theorem isC_D {b : Nat} (h : isC b) : isD (b + 5) := by rcases h with rfl | rfl <;> simp [isD]
theorem isC_L {b : Nat} (h : isC b) : isL (b + 8) := by rcases h with rfl | rfl <;> simp [isL]
theorem isC_N {b : Nat} (h : isC b) : isN (b + 9) := by rcases h with rfl | rfl <;> simp [isN]
theorem isC_M {b : Nat} (h : isC b) : isM (b + 12) := by rcases h with rfl | rfl <;> simp [isM]
theorem isC_R0 {b : Nat} (h : isC b) : isR (b + 16) := by rcases h with rfl | rfl <;> simp [isR]
theorem isC_R1 {b : Nat} (h : isC b) : isR (b + 17) := by rcases h with rfl | rfl <;> simp [isR]
theorem isC_5 : isC 5 := Or.inl rfl
theorem isC_24 : isC 24 := Or.inr rfl
section WC
variable {ad : Nat → Nat} {aI aZ aF : ClassId} {K : Mem}
theorem g_0 : (wC ad aI aZ aF K)[0]? = some (ad 0, e0 ad (K 0)) := rfl
theorem g_1 : (wC ad aI aZ aF K)[1]? = some (ad 1, e1 ad) := rfl
theorem g_2 : (wC ad aI aZ aF K)[2]? = some (ad 2, eI aI 4 (K 2)) := rfl
theorem g_3 : (wC ad aI aZ aF K)[3]? = some (ad 3, eI aI 4 (K 3)) := rfl
theorem g_4 : (wC ad aI aZ aF K)[4]? = some (ad 4, eI aI 4 (K 4)) := rfl
theorem g_C {i : Nat} (h : isC i) : (wC ad aI aZ aF K)[i]? = some (ad (i), eCt ad i (K i)) := by rcases h with rfl | rfl <;> rfl
theorem g_T {i : Nat} (h : isT i) : (wC ad aI aZ aF K)[i]? = some (ad (i), eTb ad i) := by rcases h with rfl | rfl | rfl | rfl <;> rfl
theorem g_Ta {i : Nat} (h : isT i) : (wC ad aI aZ aF K)[i + 1]? = some (ad (i + 1), eI aI 64 (K (i + 1))) := by rcases h with rfl | rfl | rfl | rfl <;> rfl
theorem g_D {i : Nat} (h : isD i) : (wC ad aI aZ aF K)[i]? = some (ad (i), eDt ad i (K i)) := by rcases h with rfl | rfl <;> rfl
theorem g_D1 {i : Nat} (h : isD i) : (wC ad aI aZ aF K)[i + 1]? = some (ad (i + 1), eI aI 8 (K (i + 1))) := by rcases h with rfl | rfl <;> rfl
theorem g_D2 {i : Nat} (h : isD i) : (wC ad aI aZ aF K)[i + 2]? = some (ad (i + 2), eF aF 8 (K (i + 2))) := by rcases h with rfl | rfl <;> rfl
theorem g_L {i : Nat} (h : isL i) : (wC ad aI aZ aF K)[i]? = some (ad (i), eLk (K i)) := by rcases h with rfl | rfl <;> rfl
theorem g_N {i : Nat} (h : isN i) : (wC ad aI aZ aF K)[i]? = some (ad (i), eIn ad i) := by rcases h with rfl | rfl <;> rfl
theorem g_N1 {i : Nat} (h : isN i) : (wC ad aI aZ aF K)[i + 1]? = some (ad (i + 1), eI aZ 2 (K (i + 1))) := by rcases h with rfl | rfl <;> rfl
theorem g_N2 {i : Nat} (h : isN i) : (wC ad aI aZ aF K)[i + 2]? = some (ad (i + 2), eI aI 2 (K (i + 2))) := by rcases h with rfl | rfl <;> rfl
theorem g_M {i : Nat} (h : isM i) : (wC ad aI aZ aF K)[i]? = some (ad (i), eMn ad i (K i)) := by rcases h with rfl | rfl <;> rfl
theorem g_M1 {i : Nat} (h : isM i) : (wC ad aI aZ aF K)[i + 1]? = some (ad (i + 1), eI aI 8 (K (i + 1))) := by rcases h with rfl | rfl <;> rfl
theorem g_M2 {i : Nat} (h : isM i) : (wC ad aI aZ aF K)[i + 2]? = some (ad (i + 2), eI aI 8 (K (i + 2))) := by rcases h with rfl | rfl <;> rfl
theorem g_M3 {i : Nat} (h : isM i) : (wC ad aI aZ aF K)[i + 3]? = some (ad (i + 3), eI aI 8 (K (i + 3))) := by rcases h with rfl | rfl <;> rfl
theorem g_R {i : Nat} (h : isR i) : (wC ad aI aZ aF K)[i]? = some (ad (i), eRg (K i)) := by rcases h with rfl | rfl | rfl | rfl <;> rfl
theorem g_Cf {i : Nat} (h : isC i) : (wC ad aI aZ aF K)[i + 18]? = some (ad (i + 18), eI aI 8 (K (i + 18))) := by rcases h with rfl | rfl <;> rfl
theorem s_C_9 {i : Nat} (h : isC i) (x : Int32) : (wC ad aI aZ aF K).set (i) (ad (i), .inr (0, ([.ref (ad (i + 1)), .ref (ad (i + 3)), .ref (ad (i + 5)), .ref (ad (i + 8)), .ref (ad (i + 9)), .ref (ad (i + 12)), .ref (ad (i + 16)), .ref (ad (i + 17)), .ref (ad (i + 18)), .int (K i 9), .int (K i 10), .int (K i 11), .int (K i 12), .int (K i 13), .int (K i 14), .int (K i 15)] : List Value).set 9 (.int x))) = wC ad aI aZ aF (ks K (i) 9 x) := by rcases h with rfl | rfl <;> rfl
theorem s_C_10 {i : Nat} (h : isC i) (x : Int32) : (wC ad aI aZ aF K).set (i) (ad (i), .inr (0, ([.ref (ad (i + 1)), .ref (ad (i + 3)), .ref (ad (i + 5)), .ref (ad (i + 8)), .ref (ad (i + 9)), .ref (ad (i + 12)), .ref (ad (i + 16)), .ref (ad (i + 17)), .ref (ad (i + 18)), .int (K i 9), .int (K i 10), .int (K i 11), .int (K i 12), .int (K i 13), .int (K i 14), .int (K i 15)] : List Value).set 10 (.int x))) = wC ad aI aZ aF (ks K (i) 10 x) := by rcases h with rfl | rfl <;> rfl
theorem s_C_11 {i : Nat} (h : isC i) (x : Int32) : (wC ad aI aZ aF K).set (i) (ad (i), .inr (0, ([.ref (ad (i + 1)), .ref (ad (i + 3)), .ref (ad (i + 5)), .ref (ad (i + 8)), .ref (ad (i + 9)), .ref (ad (i + 12)), .ref (ad (i + 16)), .ref (ad (i + 17)), .ref (ad (i + 18)), .int (K i 9), .int (K i 10), .int (K i 11), .int (K i 12), .int (K i 13), .int (K i 14), .int (K i 15)] : List Value).set 11 (.int x))) = wC ad aI aZ aF (ks K (i) 11 x) := by rcases h with rfl | rfl <;> rfl
theorem s_C_12 {i : Nat} (h : isC i) (x : Int32) : (wC ad aI aZ aF K).set (i) (ad (i), .inr (0, ([.ref (ad (i + 1)), .ref (ad (i + 3)), .ref (ad (i + 5)), .ref (ad (i + 8)), .ref (ad (i + 9)), .ref (ad (i + 12)), .ref (ad (i + 16)), .ref (ad (i + 17)), .ref (ad (i + 18)), .int (K i 9), .int (K i 10), .int (K i 11), .int (K i 12), .int (K i 13), .int (K i 14), .int (K i 15)] : List Value).set 12 (.int x))) = wC ad aI aZ aF (ks K (i) 12 x) := by rcases h with rfl | rfl <;> rfl
theorem s_C_13 {i : Nat} (h : isC i) (x : Int32) : (wC ad aI aZ aF K).set (i) (ad (i), .inr (0, ([.ref (ad (i + 1)), .ref (ad (i + 3)), .ref (ad (i + 5)), .ref (ad (i + 8)), .ref (ad (i + 9)), .ref (ad (i + 12)), .ref (ad (i + 16)), .ref (ad (i + 17)), .ref (ad (i + 18)), .int (K i 9), .int (K i 10), .int (K i 11), .int (K i 12), .int (K i 13), .int (K i 14), .int (K i 15)] : List Value).set 13 (.int x))) = wC ad aI aZ aF (ks K (i) 13 x) := by rcases h with rfl | rfl <;> rfl
theorem s_C_14 {i : Nat} (h : isC i) (x : Int32) : (wC ad aI aZ aF K).set (i) (ad (i), .inr (0, ([.ref (ad (i + 1)), .ref (ad (i + 3)), .ref (ad (i + 5)), .ref (ad (i + 8)), .ref (ad (i + 9)), .ref (ad (i + 12)), .ref (ad (i + 16)), .ref (ad (i + 17)), .ref (ad (i + 18)), .int (K i 9), .int (K i 10), .int (K i 11), .int (K i 12), .int (K i 13), .int (K i 14), .int (K i 15)] : List Value).set 14 (.int x))) = wC ad aI aZ aF (ks K (i) 14 x) := by rcases h with rfl | rfl <;> rfl
theorem s_C_15 {i : Nat} (h : isC i) (x : Int32) : (wC ad aI aZ aF K).set (i) (ad (i), .inr (0, ([.ref (ad (i + 1)), .ref (ad (i + 3)), .ref (ad (i + 5)), .ref (ad (i + 8)), .ref (ad (i + 9)), .ref (ad (i + 12)), .ref (ad (i + 16)), .ref (ad (i + 17)), .ref (ad (i + 18)), .int (K i 9), .int (K i 10), .int (K i 11), .int (K i 12), .int (K i 13), .int (K i 14), .int (K i 15)] : List Value).set 15 (.int x))) = wC ad aI aZ aF (ks K (i) 15 x) := by rcases h with rfl | rfl <;> rfl
theorem s_D_2 {i : Nat} (h : isD i) (x : Int32) : (wC ad aI aZ aF K).set (i) (ad (i), .inr (1, ([.ref (ad (i + 1)), .ref (ad (i + 2)), .int (K i 2), .int (K i 3)] : List Value).set 2 (.int x))) = wC ad aI aZ aF (ks K (i) 2 x) := by rcases h with rfl | rfl <;> rfl
theorem s_D_3 {i : Nat} (h : isD i) (x : Int32) : (wC ad aI aZ aF K).set (i) (ad (i), .inr (1, ([.ref (ad (i + 1)), .ref (ad (i + 2)), .int (K i 2), .int (K i 3)] : List Value).set 3 (.int x))) = wC ad aI aZ aF (ks K (i) 3 x) := by rcases h with rfl | rfl <;> rfl
theorem s_L_0 {i : Nat} (h : isL i) (x : Int32) : (wC ad aI aZ aF K).set (i) (ad (i), .inr (3, ([.int (K i 0), .int (K i 1), .int (K i 2), .int (K i 3)] : List Value).set 0 (.int x))) = wC ad aI aZ aF (ks K (i) 0 x) := by rcases h with rfl | rfl <;> rfl
theorem s_L_1 {i : Nat} (h : isL i) (x : Int32) : (wC ad aI aZ aF K).set (i) (ad (i), .inr (3, ([.int (K i 0), .int (K i 1), .int (K i 2), .int (K i 3)] : List Value).set 1 (.int x))) = wC ad aI aZ aF (ks K (i) 1 x) := by rcases h with rfl | rfl <;> rfl
theorem s_L_2 {i : Nat} (h : isL i) (x : Int32) : (wC ad aI aZ aF K).set (i) (ad (i), .inr (3, ([.int (K i 0), .int (K i 1), .int (K i 2), .int (K i 3)] : List Value).set 2 (.int x))) = wC ad aI aZ aF (ks K (i) 2 x) := by rcases h with rfl | rfl <;> rfl
theorem s_L_3 {i : Nat} (h : isL i) (x : Int32) : (wC ad aI aZ aF K).set (i) (ad (i), .inr (3, ([.int (K i 0), .int (K i 1), .int (K i 2), .int (K i 3)] : List Value).set 3 (.int x))) = wC ad aI aZ aF (ks K (i) 3 x) := by rcases h with rfl | rfl <;> rfl
theorem s_M_3 {i : Nat} (h : isM i) (x : Int32) : (wC ad aI aZ aF K).set (i) (ad (i), .inr (4, ([.ref (ad (i + 1)), .ref (ad (i + 2)), .ref (ad (i + 3)), .int (K i 3)] : List Value).set 3 (.int x))) = wC ad aI aZ aF (ks K (i) 3 x) := by rcases h with rfl | rfl <;> rfl
theorem s_R_0 {i : Nat} (h : isR i) (x : Int32) : (wC ad aI aZ aF K).set (i) (ad (i), .inr (6, ([.int (K i 0), .int (K i 1), .int (K i 2), .int (K i 3), .int (K i 4), .int (K i 5), .int (K i 6), .int (K i 7), .int (K i 8), .int (K i 9)] : List Value).set 0 (.int x))) = wC ad aI aZ aF (ks K (i) 0 x) := by rcases h with rfl | rfl | rfl | rfl <;> rfl
theorem s_R_1 {i : Nat} (h : isR i) (x : Int32) : (wC ad aI aZ aF K).set (i) (ad (i), .inr (6, ([.int (K i 0), .int (K i 1), .int (K i 2), .int (K i 3), .int (K i 4), .int (K i 5), .int (K i 6), .int (K i 7), .int (K i 8), .int (K i 9)] : List Value).set 1 (.int x))) = wC ad aI aZ aF (ks K (i) 1 x) := by rcases h with rfl | rfl | rfl | rfl <;> rfl
theorem s_R_2 {i : Nat} (h : isR i) (x : Int32) : (wC ad aI aZ aF K).set (i) (ad (i), .inr (6, ([.int (K i 0), .int (K i 1), .int (K i 2), .int (K i 3), .int (K i 4), .int (K i 5), .int (K i 6), .int (K i 7), .int (K i 8), .int (K i 9)] : List Value).set 2 (.int x))) = wC ad aI aZ aF (ks K (i) 2 x) := by rcases h with rfl | rfl | rfl | rfl <;> rfl
theorem s_R_3 {i : Nat} (h : isR i) (x : Int32) : (wC ad aI aZ aF K).set (i) (ad (i), .inr (6, ([.int (K i 0), .int (K i 1), .int (K i 2), .int (K i 3), .int (K i 4), .int (K i 5), .int (K i 6), .int (K i 7), .int (K i 8), .int (K i 9)] : List Value).set 3 (.int x))) = wC ad aI aZ aF (ks K (i) 3 x) := by rcases h with rfl | rfl | rfl | rfl <;> rfl
theorem s_R_4 {i : Nat} (h : isR i) (x : Int32) : (wC ad aI aZ aF K).set (i) (ad (i), .inr (6, ([.int (K i 0), .int (K i 1), .int (K i 2), .int (K i 3), .int (K i 4), .int (K i 5), .int (K i 6), .int (K i 7), .int (K i 8), .int (K i 9)] : List Value).set 4 (.int x))) = wC ad aI aZ aF (ks K (i) 4 x) := by rcases h with rfl | rfl | rfl | rfl <;> rfl
theorem s_R_5 {i : Nat} (h : isR i) (x : Int32) : (wC ad aI aZ aF K).set (i) (ad (i), .inr (6, ([.int (K i 0), .int (K i 1), .int (K i 2), .int (K i 3), .int (K i 4), .int (K i 5), .int (K i 6), .int (K i 7), .int (K i 8), .int (K i 9)] : List Value).set 5 (.int x))) = wC ad aI aZ aF (ks K (i) 5 x) := by rcases h with rfl | rfl | rfl | rfl <;> rfl
theorem s_R_6 {i : Nat} (h : isR i) (x : Int32) : (wC ad aI aZ aF K).set (i) (ad (i), .inr (6, ([.int (K i 0), .int (K i 1), .int (K i 2), .int (K i 3), .int (K i 4), .int (K i 5), .int (K i 6), .int (K i 7), .int (K i 8), .int (K i 9)] : List Value).set 6 (.int x))) = wC ad aI aZ aF (ks K (i) 6 x) := by rcases h with rfl | rfl | rfl | rfl <;> rfl
theorem s_R_7 {i : Nat} (h : isR i) (x : Int32) : (wC ad aI aZ aF K).set (i) (ad (i), .inr (6, ([.int (K i 0), .int (K i 1), .int (K i 2), .int (K i 3), .int (K i 4), .int (K i 5), .int (K i 6), .int (K i 7), .int (K i 8), .int (K i 9)] : List Value).set 7 (.int x))) = wC ad aI aZ aF (ks K (i) 7 x) := by rcases h with rfl | rfl | rfl | rfl <;> rfl
theorem s_R_8 {i : Nat} (h : isR i) (x : Int32) : (wC ad aI aZ aF K).set (i) (ad (i), .inr (6, ([.int (K i 0), .int (K i 1), .int (K i 2), .int (K i 3), .int (K i 4), .int (K i 5), .int (K i 6), .int (K i 7), .int (K i 8), .int (K i 9)] : List Value).set 8 (.int x))) = wC ad aI aZ aF (ks K (i) 8 x) := by rcases h with rfl | rfl | rfl | rfl <;> rfl
theorem s_R_9 {i : Nat} (h : isR i) (x : Int32) : (wC ad aI aZ aF K).set (i) (ad (i), .inr (6, ([.int (K i 0), .int (K i 1), .int (K i 2), .int (K i 3), .int (K i 4), .int (K i 5), .int (K i 6), .int (K i 7), .int (K i 8), .int (K i 9)] : List Value).set 9 (.int x))) = wC ad aI aZ aF (ks K (i) 9 x) := by rcases h with rfl | rfl | rfl | rfl <;> rfl
theorem s_0_3 (x : Int32) : (wC ad aI aZ aF K).set (0) (ad (0), .inr (8, ([.ref (ad 1), .ref (ad 5), .ref (ad 24), .int (K 0 3)] : List Value).set 3 (.int x))) = wC ad aI aZ aF (ks K (0) 3 x) := rfl
theorem s_2 (k : Nat) (x : Int32) : (wC ad aI aZ aF K).set (2) (ad (2), .inl (aI, 4, .inl (upd (K (2)) k x))) = wC ad aI aZ aF (ks K (2) k x) := rfl
theorem s_3 (k : Nat) (x : Int32) : (wC ad aI aZ aF K).set (3) (ad (3), .inl (aI, 4, .inl (upd (K (3)) k x))) = wC ad aI aZ aF (ks K (3) k x) := rfl
theorem s_4 (k : Nat) (x : Int32) : (wC ad aI aZ aF K).set (4) (ad (4), .inl (aI, 4, .inl (upd (K (4)) k x))) = wC ad aI aZ aF (ks K (4) k x) := rfl
theorem s_Ta {i : Nat} (h : isT i) (k : Nat) (x : Int32) : (wC ad aI aZ aF K).set (i + 1) (ad (i + 1), .inl (aI, 64, .inl (upd (K (i + 1)) k x))) = wC ad aI aZ aF (ks K (i + 1) k x) := by rcases h with rfl | rfl | rfl | rfl <;> rfl
theorem s_D1 {i : Nat} (h : isD i) (k : Nat) (x : Int32) : (wC ad aI aZ aF K).set (i + 1) (ad (i + 1), .inl (aI, 8, .inl (upd (K (i + 1)) k x))) = wC ad aI aZ aF (ks K (i + 1) k x) := by rcases h with rfl | rfl <;> rfl
theorem s_N1 {i : Nat} (h : isN i) (k : Nat) (x : Int32) : (wC ad aI aZ aF K).set (i + 1) (ad (i + 1), .inl (aZ, 2, .inl (upd (K (i + 1)) k x))) = wC ad aI aZ aF (ks K (i + 1) k x) := by rcases h with rfl | rfl <;> rfl
theorem s_N2 {i : Nat} (h : isN i) (k : Nat) (x : Int32) : (wC ad aI aZ aF K).set (i + 2) (ad (i + 2), .inl (aI, 2, .inl (upd (K (i + 2)) k x))) = wC ad aI aZ aF (ks K (i + 2) k x) := by rcases h with rfl | rfl <;> rfl
theorem s_M1 {i : Nat} (h : isM i) (k : Nat) (x : Int32) : (wC ad aI aZ aF K).set (i + 1) (ad (i + 1), .inl (aI, 8, .inl (upd (K (i + 1)) k x))) = wC ad aI aZ aF (ks K (i + 1) k x) := by rcases h with rfl | rfl <;> rfl
theorem s_M2 {i : Nat} (h : isM i) (k : Nat) (x : Int32) : (wC ad aI aZ aF K).set (i + 2) (ad (i + 2), .inl (aI, 8, .inl (upd (K (i + 2)) k x))) = wC ad aI aZ aF (ks K (i + 2) k x) := by rcases h with rfl | rfl <;> rfl
theorem s_M3 {i : Nat} (h : isM i) (k : Nat) (x : Int32) : (wC ad aI aZ aF K).set (i + 3) (ad (i + 3), .inl (aI, 8, .inl (upd (K (i + 3)) k x))) = wC ad aI aZ aF (ks K (i + 3) k x) := by rcases h with rfl | rfl <;> rfl
theorem s_Cf {i : Nat} (h : isC i) (k : Nat) (x : Int32) : (wC ad aI aZ aF K).set (i + 18) (ad (i + 18), .inl (aI, 8, .inl (upd (K (i + 18)) k x))) = wC ad aI aZ aF (ks K (i + 18) k x) := by rcases h with rfl | rfl <;> rfl
theorem vf_up (f : Nat → Int32) (k : Nat) (x : UInt32) : vf_upd (fun j => (f j).toUInt32) k x = fun j => (upd f k x.toInt32 j).toUInt32 := by
  funext j
  by_cases h : j = k <;> simp [vf_upd, upd, h]
theorem s_D2 {i : Nat} (h : isD i) (k : Nat) (x : UInt32) : (wC ad aI aZ aF K).set (i + 2) (ad (i + 2), .inl (aF, 8, .inr (.inr (.inl (vf_upd (fun j => (K (i + 2) j).toUInt32) k x))))) = wC ad aI aZ aF (ks K (i + 2) k x.toInt32) := by
  rw [vf_up]
  rcases h with rfl | rfl <;> rfl
/-- a row of 64, as a whole -/
def kr (K : Mem) (i : Nat) (f : Nat → Int32) : Mem := fun a b => if a = i then f b else K a b
theorem r_Ta {i : Nat} (h : isT i) (f : Nat → Int32) : (wC ad aI aZ aF K).set (i + 1) (ad (i + 1), .inl (aI, 64, .inl f)) = wC ad aI aZ aF (kr K (i + 1) f) := by rcases h with rfl | rfl | rfl | rfl <;> rfl
end WC
/-- apartness is of the addresses alone -/
theorem D_of {ws ws' : va_W} {X A : Nat → Prop} (h : ws.map (fun q => q.1) = ws'.map (fun q => q.1)) (hA : ∀ q ∈ ws', A q.1) (hD : va_D X ws) : va_D A ws' := by
  have at' : ∀ (i : Nat) (q : Nat × va_E), ws'[i]? = some q → ∃ e, ws[i]? = some (q.1, e) := by
    intro i q hq
    have h1 : (ws'.map (fun q => q.1))[i]? = some q.1 := by rw [List.getElem?_map, hq]; rfl
    rw [← h, List.getElem?_map] at h1
    cases hw : ws[i]? with
    | none => rw [hw] at h1; cases h1
    | some x =>
      rw [hw] at h1
      have h2 : x.1 = q.1 := Option.some.inj h1
      exact ⟨x.2, by rw [← h2]⟩
  refine ⟨fun i j a b ha hb hab => ?_, fun k q hq => hA q (List.mem_of_getElem? hq)⟩
  obtain ⟨e, h1⟩ := at' i a ha
  obtain ⟨e', h2⟩ := at' j b hb
  exact hD.1 i j _ _ h1 h2 hab
def AAof (n : Nat) (ad : Nat → Nat) : Nat → Nat → Prop := fun sz q => (∃ i, i < n ∧ q = ad i) ∨ sz ≤ q
def nestF : List (String × Nat × String × String × String × String) := [("BarrierLights", 107, "BarrierLights$Controller", "link", "LBarrierLights$Link;", "BarrierLights"), ("BarrierLights", 128, "BarrierLights$Controller", "faults", "[I", "BarrierLights"), ("BarrierLights", 132, "BarrierLights$Controller", "whyFlashing", "I", "BarrierLights"), ("BarrierLights", 150, "BarrierLights$Controller", "side", "I", "BarrierLights"), ("BarrierLights", 157, "BarrierLights$Link", "plan", "I", "BarrierLights"), ("BarrierLights", 163, "BarrierLights$Controller", "ring0", "LBarrierLights$Ring;", "BarrierLights"), ("BarrierLights", 167, "BarrierLights$Ring", "phase", "I", "BarrierLights"), ("BarrierLights", 172, "BarrierLights$Controller", "ring1", "LBarrierLights$Ring;", "BarrierLights"), ("BarrierLights", 175, "BarrierLights$Detectors", "occupancies", "[F", "BarrierLights"), ("BarrierLights", 38, "BarrierLights$Controller", "written", "LBarrierLights$Table;", "BarrierLights"), ("BarrierLights", 64, "BarrierLights$Controller", "used", "I", "BarrierLights"), ("BarrierLights", 73, "BarrierLights$Controller", "wrongPlace", "I", "BarrierLights"), ("BarrierLights", 76, "BarrierLights$Controller", "detectors", "LBarrierLights$Detectors;", "BarrierLights"), ("BarrierLights", 92, "BarrierLights$Controller", "inputs", "LBarrierLights$Inputs;", "BarrierLights"), ("BarrierLights$Controller", 157, "BarrierLights$Ring", "phase", "I", "BarrierLights"), ("BarrierLights$Controller", 170, "BarrierLights$Ring", "gap", "I", "BarrierLights"), ("BarrierLights$Controller", 178, "BarrierLights$Ring", "age", "I", "BarrierLights"), ("BarrierLights$Controller", 192, "BarrierLights$Ring", "wanted", "Z", "BarrierLights"), ("BarrierLights$Controller", 195, "BarrierLights$Ring", "against", "I", "BarrierLights"), ("BarrierLights$Controller", 198, "BarrierLights$Ring", "lamps", "I", "BarrierLights"), ("BarrierLights$Controller", 216, "BarrierLights$Ring", "forward", "I", "BarrierLights"), ("BarrierLights$Controller", 219, "BarrierLights$Ring", "next", "I", "BarrierLights"), ("BarrierLights$Controller", 249, "BarrierLights$Ring", "walkSign", "I", "BarrierLights"), ("BarrierLights$Controller", 293, "BarrierLights$Detectors", "failed", "I", "BarrierLights"), ("BarrierLights$Controller", 296, "BarrierLights$Link", "plan", "I", "BarrierLights")]
def nestM : List (String × Nat × MethodName × String) := [("BarrierLights", 18, ⟨"BarrierLights$Controller", "<init>", "()V"⟩, "BarrierLights"), ("BarrierLights", 9, ⟨"BarrierLights$Plans", "<init>", "()V"⟩, "BarrierLights"), ("BarrierLights$Controller", 104, ⟨"BarrierLights", "bit", "(I)I"⟩, "BarrierLights"), ("BarrierLights$Controller", 11, ⟨"BarrierLights$Table", "<init>", "()V"⟩, "BarrierLights"), ("BarrierLights$Controller", 147, ⟨"BarrierLights", "ringOf", "(I)I"⟩, "BarrierLights"), ("BarrierLights$Controller", 210, ⟨"BarrierLights", "phasesOfSide", "(I)I"⟩, "BarrierLights"), ("BarrierLights$Controller", 23, ⟨"BarrierLights$Detectors", "<init>", "()V"⟩, "BarrierLights"), ("BarrierLights$Controller", 264, ⟨"BarrierLights", "sideOf", "(I)I"⟩, "BarrierLights"), ("BarrierLights$Controller", 290, ⟨"BarrierLights", "isPhase", "(I)Z"⟩, "BarrierLights"), ("BarrierLights$Controller", 30, ⟨"BarrierLights$Link", "<init>", "()V"⟩, "BarrierLights"), ("BarrierLights$Controller", 37, ⟨"BarrierLights$Inputs", "<init>", "()V"⟩, "BarrierLights"), ("BarrierLights$Controller", 44, ⟨"BarrierLights$Monitor", "<init>", "()V"⟩, "BarrierLights"), ("BarrierLights$Controller", 51, ⟨"BarrierLights$Ring", "<init>", "()V"⟩, "BarrierLights"), ("BarrierLights$Detectors", 26, ⟨"BarrierLights", "bit", "(I)I"⟩, "BarrierLights"), ("BarrierLights$Inputs", 19, ⟨"BarrierLights", "isInput", "(I)Z"⟩, "BarrierLights"), ("BarrierLights$Inputs", 23, ⟨"BarrierLights", "bit", "(I)I"⟩, "BarrierLights"), ("BarrierLights$Link", 24, ⟨"BarrierLights", "wrap", "(II)I"⟩, "BarrierLights"), ("BarrierLights$Monitor", 25, ⟨"BarrierLights", "isPhase", "(I)Z"⟩, "BarrierLights"), ("BarrierLights$Monitor", 41, ⟨"BarrierLights", "bit", "(I)I"⟩, "BarrierLights"), ("BarrierLights$Monitor", 52, ⟨"BarrierLights", "ringOf", "(I)I"⟩, "BarrierLights"), ("BarrierLights$Monitor", 55, ⟨"BarrierLights", "sideOf", "(I)I"⟩, "BarrierLights"), ("BarrierLights$Ring", 43, ⟨"BarrierLights", "bit", "(I)I"⟩, "BarrierLights"), ("BarrierLights$Table", 29, ⟨"BarrierLights", "bit", "(I)I"⟩, "BarrierLights")]
def NWC (U : State) : Prop := (∀ q ∈ nestF, va_Nw (.fieldLinkNest q.1 q.2.1 q.2.2.1 q.2.2.2.1 q.2.2.2.2.1 q.2.2.2.2.2) U) ∧ ∀ q ∈ nestM, va_Nw (.methodLinkNest q.1 q.2.1 q.2.2.1 q.2.2.2) U
theorem NWC_warm (s U : State) (hW : s.WarmedH U.vm) (h : NWC s) : NWC U := ⟨fun q hq => va_Nw.warmF hW (h.1 q hq), fun q hq => va_Nw.warmM hW (h.2 q hq)⟩
theorem NWC_same (U U' : State) (hv : U'.vm = U.vm) (h : NWC U) : NWC U' := ⟨fun q hq => va_Nw.same rfl hv.symm (h.1 q hq), fun q hq => va_Nw.same rfl hv.symm (h.2 q hq)⟩
theorem nf_RX8_107 (U : State) (h : NWC U) : va_Nw (.fieldLinkNest "BarrierLights" 107 "BarrierLights$Controller" "link" "LBarrierLights$Link;" "BarrierLights") U := h.1 ("BarrierLights", 107, "BarrierLights$Controller", "link", "LBarrierLights$Link;", "BarrierLights") (List.mem_of_getElem? (i := 0) rfl)
theorem nf_RX8_128 (U : State) (h : NWC U) : va_Nw (.fieldLinkNest "BarrierLights" 128 "BarrierLights$Controller" "faults" "[I" "BarrierLights") U := h.1 ("BarrierLights", 128, "BarrierLights$Controller", "faults", "[I", "BarrierLights") (List.mem_of_getElem? (i := 1) rfl)
theorem nf_RX8_132 (U : State) (h : NWC U) : va_Nw (.fieldLinkNest "BarrierLights" 132 "BarrierLights$Controller" "whyFlashing" "I" "BarrierLights") U := h.1 ("BarrierLights", 132, "BarrierLights$Controller", "whyFlashing", "I", "BarrierLights") (List.mem_of_getElem? (i := 2) rfl)
theorem nf_RX8_150 (U : State) (h : NWC U) : va_Nw (.fieldLinkNest "BarrierLights" 150 "BarrierLights$Controller" "side" "I" "BarrierLights") U := h.1 ("BarrierLights", 150, "BarrierLights$Controller", "side", "I", "BarrierLights") (List.mem_of_getElem? (i := 3) rfl)
theorem nf_RX8_157 (U : State) (h : NWC U) : va_Nw (.fieldLinkNest "BarrierLights" 157 "BarrierLights$Link" "plan" "I" "BarrierLights") U := h.1 ("BarrierLights", 157, "BarrierLights$Link", "plan", "I", "BarrierLights") (List.mem_of_getElem? (i := 4) rfl)
theorem nf_RX8_163 (U : State) (h : NWC U) : va_Nw (.fieldLinkNest "BarrierLights" 163 "BarrierLights$Controller" "ring0" "LBarrierLights$Ring;" "BarrierLights") U := h.1 ("BarrierLights", 163, "BarrierLights$Controller", "ring0", "LBarrierLights$Ring;", "BarrierLights") (List.mem_of_getElem? (i := 5) rfl)
theorem nf_RX8_167 (U : State) (h : NWC U) : va_Nw (.fieldLinkNest "BarrierLights" 167 "BarrierLights$Ring" "phase" "I" "BarrierLights") U := h.1 ("BarrierLights", 167, "BarrierLights$Ring", "phase", "I", "BarrierLights") (List.mem_of_getElem? (i := 6) rfl)
theorem nf_RX8_172 (U : State) (h : NWC U) : va_Nw (.fieldLinkNest "BarrierLights" 172 "BarrierLights$Controller" "ring1" "LBarrierLights$Ring;" "BarrierLights") U := h.1 ("BarrierLights", 172, "BarrierLights$Controller", "ring1", "LBarrierLights$Ring;", "BarrierLights") (List.mem_of_getElem? (i := 7) rfl)
theorem nf_RX8_175 (U : State) (h : NWC U) : va_Nw (.fieldLinkNest "BarrierLights" 175 "BarrierLights$Detectors" "occupancies" "[F" "BarrierLights") U := h.1 ("BarrierLights", 175, "BarrierLights$Detectors", "occupancies", "[F", "BarrierLights") (List.mem_of_getElem? (i := 8) rfl)
theorem nf_RX8_38 (U : State) (h : NWC U) : va_Nw (.fieldLinkNest "BarrierLights" 38 "BarrierLights$Controller" "written" "LBarrierLights$Table;" "BarrierLights") U := h.1 ("BarrierLights", 38, "BarrierLights$Controller", "written", "LBarrierLights$Table;", "BarrierLights") (List.mem_of_getElem? (i := 9) rfl)
theorem nf_RX8_64 (U : State) (h : NWC U) : va_Nw (.fieldLinkNest "BarrierLights" 64 "BarrierLights$Controller" "used" "I" "BarrierLights") U := h.1 ("BarrierLights", 64, "BarrierLights$Controller", "used", "I", "BarrierLights") (List.mem_of_getElem? (i := 10) rfl)
theorem nf_RX8_73 (U : State) (h : NWC U) : va_Nw (.fieldLinkNest "BarrierLights" 73 "BarrierLights$Controller" "wrongPlace" "I" "BarrierLights") U := h.1 ("BarrierLights", 73, "BarrierLights$Controller", "wrongPlace", "I", "BarrierLights") (List.mem_of_getElem? (i := 11) rfl)
theorem nf_RX8_76 (U : State) (h : NWC U) : va_Nw (.fieldLinkNest "BarrierLights" 76 "BarrierLights$Controller" "detectors" "LBarrierLights$Detectors;" "BarrierLights") U := h.1 ("BarrierLights", 76, "BarrierLights$Controller", "detectors", "LBarrierLights$Detectors;", "BarrierLights") (List.mem_of_getElem? (i := 12) rfl)
theorem nf_RX8_92 (U : State) (h : NWC U) : va_Nw (.fieldLinkNest "BarrierLights" 92 "BarrierLights$Controller" "inputs" "LBarrierLights$Inputs;" "BarrierLights") U := h.1 ("BarrierLights", 92, "BarrierLights$Controller", "inputs", "LBarrierLights$Inputs;", "BarrierLights") (List.mem_of_getElem? (i := 13) rfl)
theorem nf_RX0_157 (U : State) (h : NWC U) : va_Nw (.fieldLinkNest "BarrierLights$Controller" 157 "BarrierLights$Ring" "phase" "I" "BarrierLights") U := h.1 ("BarrierLights$Controller", 157, "BarrierLights$Ring", "phase", "I", "BarrierLights") (List.mem_of_getElem? (i := 14) rfl)
theorem nf_RX0_170 (U : State) (h : NWC U) : va_Nw (.fieldLinkNest "BarrierLights$Controller" 170 "BarrierLights$Ring" "gap" "I" "BarrierLights") U := h.1 ("BarrierLights$Controller", 170, "BarrierLights$Ring", "gap", "I", "BarrierLights") (List.mem_of_getElem? (i := 15) rfl)
theorem nf_RX0_178 (U : State) (h : NWC U) : va_Nw (.fieldLinkNest "BarrierLights$Controller" 178 "BarrierLights$Ring" "age" "I" "BarrierLights") U := h.1 ("BarrierLights$Controller", 178, "BarrierLights$Ring", "age", "I", "BarrierLights") (List.mem_of_getElem? (i := 16) rfl)
theorem nf_RX0_192 (U : State) (h : NWC U) : va_Nw (.fieldLinkNest "BarrierLights$Controller" 192 "BarrierLights$Ring" "wanted" "Z" "BarrierLights") U := h.1 ("BarrierLights$Controller", 192, "BarrierLights$Ring", "wanted", "Z", "BarrierLights") (List.mem_of_getElem? (i := 17) rfl)
theorem nf_RX0_195 (U : State) (h : NWC U) : va_Nw (.fieldLinkNest "BarrierLights$Controller" 195 "BarrierLights$Ring" "against" "I" "BarrierLights") U := h.1 ("BarrierLights$Controller", 195, "BarrierLights$Ring", "against", "I", "BarrierLights") (List.mem_of_getElem? (i := 18) rfl)
theorem nf_RX0_198 (U : State) (h : NWC U) : va_Nw (.fieldLinkNest "BarrierLights$Controller" 198 "BarrierLights$Ring" "lamps" "I" "BarrierLights") U := h.1 ("BarrierLights$Controller", 198, "BarrierLights$Ring", "lamps", "I", "BarrierLights") (List.mem_of_getElem? (i := 19) rfl)
theorem nf_RX0_216 (U : State) (h : NWC U) : va_Nw (.fieldLinkNest "BarrierLights$Controller" 216 "BarrierLights$Ring" "forward" "I" "BarrierLights") U := h.1 ("BarrierLights$Controller", 216, "BarrierLights$Ring", "forward", "I", "BarrierLights") (List.mem_of_getElem? (i := 20) rfl)
theorem nf_RX0_219 (U : State) (h : NWC U) : va_Nw (.fieldLinkNest "BarrierLights$Controller" 219 "BarrierLights$Ring" "next" "I" "BarrierLights") U := h.1 ("BarrierLights$Controller", 219, "BarrierLights$Ring", "next", "I", "BarrierLights") (List.mem_of_getElem? (i := 21) rfl)
theorem nf_RX0_249 (U : State) (h : NWC U) : va_Nw (.fieldLinkNest "BarrierLights$Controller" 249 "BarrierLights$Ring" "walkSign" "I" "BarrierLights") U := h.1 ("BarrierLights$Controller", 249, "BarrierLights$Ring", "walkSign", "I", "BarrierLights") (List.mem_of_getElem? (i := 22) rfl)
theorem nf_RX0_293 (U : State) (h : NWC U) : va_Nw (.fieldLinkNest "BarrierLights$Controller" 293 "BarrierLights$Detectors" "failed" "I" "BarrierLights") U := h.1 ("BarrierLights$Controller", 293, "BarrierLights$Detectors", "failed", "I", "BarrierLights") (List.mem_of_getElem? (i := 23) rfl)
theorem nf_RX0_296 (U : State) (h : NWC U) : va_Nw (.fieldLinkNest "BarrierLights$Controller" 296 "BarrierLights$Link" "plan" "I" "BarrierLights") U := h.1 ("BarrierLights$Controller", 296, "BarrierLights$Link", "plan", "I", "BarrierLights") (List.mem_of_getElem? (i := 24) rfl)
theorem nm_RX8_18 (U : State) (h : NWC U) : va_Nw (.methodLinkNest "BarrierLights" 18 ⟨"BarrierLights$Controller", "<init>", "()V"⟩ "BarrierLights") U := h.2 ("BarrierLights", 18, ⟨"BarrierLights$Controller", "<init>", "()V"⟩, "BarrierLights") (List.mem_of_getElem? (i := 0) rfl)
theorem nm_RX8_9 (U : State) (h : NWC U) : va_Nw (.methodLinkNest "BarrierLights" 9 ⟨"BarrierLights$Plans", "<init>", "()V"⟩ "BarrierLights") U := h.2 ("BarrierLights", 9, ⟨"BarrierLights$Plans", "<init>", "()V"⟩, "BarrierLights") (List.mem_of_getElem? (i := 1) rfl)
theorem nm_RX0_104 (U : State) (h : NWC U) : va_Nw (.methodLinkNest "BarrierLights$Controller" 104 ⟨"BarrierLights", "bit", "(I)I"⟩ "BarrierLights") U := h.2 ("BarrierLights$Controller", 104, ⟨"BarrierLights", "bit", "(I)I"⟩, "BarrierLights") (List.mem_of_getElem? (i := 2) rfl)
theorem nm_RX0_11 (U : State) (h : NWC U) : va_Nw (.methodLinkNest "BarrierLights$Controller" 11 ⟨"BarrierLights$Table", "<init>", "()V"⟩ "BarrierLights") U := h.2 ("BarrierLights$Controller", 11, ⟨"BarrierLights$Table", "<init>", "()V"⟩, "BarrierLights") (List.mem_of_getElem? (i := 3) rfl)
theorem nm_RX0_147 (U : State) (h : NWC U) : va_Nw (.methodLinkNest "BarrierLights$Controller" 147 ⟨"BarrierLights", "ringOf", "(I)I"⟩ "BarrierLights") U := h.2 ("BarrierLights$Controller", 147, ⟨"BarrierLights", "ringOf", "(I)I"⟩, "BarrierLights") (List.mem_of_getElem? (i := 4) rfl)
theorem nm_RX0_210 (U : State) (h : NWC U) : va_Nw (.methodLinkNest "BarrierLights$Controller" 210 ⟨"BarrierLights", "phasesOfSide", "(I)I"⟩ "BarrierLights") U := h.2 ("BarrierLights$Controller", 210, ⟨"BarrierLights", "phasesOfSide", "(I)I"⟩, "BarrierLights") (List.mem_of_getElem? (i := 5) rfl)
theorem nm_RX0_23 (U : State) (h : NWC U) : va_Nw (.methodLinkNest "BarrierLights$Controller" 23 ⟨"BarrierLights$Detectors", "<init>", "()V"⟩ "BarrierLights") U := h.2 ("BarrierLights$Controller", 23, ⟨"BarrierLights$Detectors", "<init>", "()V"⟩, "BarrierLights") (List.mem_of_getElem? (i := 6) rfl)
theorem nm_RX0_264 (U : State) (h : NWC U) : va_Nw (.methodLinkNest "BarrierLights$Controller" 264 ⟨"BarrierLights", "sideOf", "(I)I"⟩ "BarrierLights") U := h.2 ("BarrierLights$Controller", 264, ⟨"BarrierLights", "sideOf", "(I)I"⟩, "BarrierLights") (List.mem_of_getElem? (i := 7) rfl)
theorem nm_RX0_290 (U : State) (h : NWC U) : va_Nw (.methodLinkNest "BarrierLights$Controller" 290 ⟨"BarrierLights", "isPhase", "(I)Z"⟩ "BarrierLights") U := h.2 ("BarrierLights$Controller", 290, ⟨"BarrierLights", "isPhase", "(I)Z"⟩, "BarrierLights") (List.mem_of_getElem? (i := 8) rfl)
theorem nm_RX0_30 (U : State) (h : NWC U) : va_Nw (.methodLinkNest "BarrierLights$Controller" 30 ⟨"BarrierLights$Link", "<init>", "()V"⟩ "BarrierLights") U := h.2 ("BarrierLights$Controller", 30, ⟨"BarrierLights$Link", "<init>", "()V"⟩, "BarrierLights") (List.mem_of_getElem? (i := 9) rfl)
theorem nm_RX0_37 (U : State) (h : NWC U) : va_Nw (.methodLinkNest "BarrierLights$Controller" 37 ⟨"BarrierLights$Inputs", "<init>", "()V"⟩ "BarrierLights") U := h.2 ("BarrierLights$Controller", 37, ⟨"BarrierLights$Inputs", "<init>", "()V"⟩, "BarrierLights") (List.mem_of_getElem? (i := 10) rfl)
theorem nm_RX0_44 (U : State) (h : NWC U) : va_Nw (.methodLinkNest "BarrierLights$Controller" 44 ⟨"BarrierLights$Monitor", "<init>", "()V"⟩ "BarrierLights") U := h.2 ("BarrierLights$Controller", 44, ⟨"BarrierLights$Monitor", "<init>", "()V"⟩, "BarrierLights") (List.mem_of_getElem? (i := 11) rfl)
theorem nm_RX0_51 (U : State) (h : NWC U) : va_Nw (.methodLinkNest "BarrierLights$Controller" 51 ⟨"BarrierLights$Ring", "<init>", "()V"⟩ "BarrierLights") U := h.2 ("BarrierLights$Controller", 51, ⟨"BarrierLights$Ring", "<init>", "()V"⟩, "BarrierLights") (List.mem_of_getElem? (i := 12) rfl)
theorem nm_RX1_26 (U : State) (h : NWC U) : va_Nw (.methodLinkNest "BarrierLights$Detectors" 26 ⟨"BarrierLights", "bit", "(I)I"⟩ "BarrierLights") U := h.2 ("BarrierLights$Detectors", 26, ⟨"BarrierLights", "bit", "(I)I"⟩, "BarrierLights") (List.mem_of_getElem? (i := 13) rfl)
theorem nm_RX2_19 (U : State) (h : NWC U) : va_Nw (.methodLinkNest "BarrierLights$Inputs" 19 ⟨"BarrierLights", "isInput", "(I)Z"⟩ "BarrierLights") U := h.2 ("BarrierLights$Inputs", 19, ⟨"BarrierLights", "isInput", "(I)Z"⟩, "BarrierLights") (List.mem_of_getElem? (i := 14) rfl)
theorem nm_RX2_23 (U : State) (h : NWC U) : va_Nw (.methodLinkNest "BarrierLights$Inputs" 23 ⟨"BarrierLights", "bit", "(I)I"⟩ "BarrierLights") U := h.2 ("BarrierLights$Inputs", 23, ⟨"BarrierLights", "bit", "(I)I"⟩, "BarrierLights") (List.mem_of_getElem? (i := 15) rfl)
theorem nm_RX3_24 (U : State) (h : NWC U) : va_Nw (.methodLinkNest "BarrierLights$Link" 24 ⟨"BarrierLights", "wrap", "(II)I"⟩ "BarrierLights") U := h.2 ("BarrierLights$Link", 24, ⟨"BarrierLights", "wrap", "(II)I"⟩, "BarrierLights") (List.mem_of_getElem? (i := 16) rfl)
theorem nm_RX4_25 (U : State) (h : NWC U) : va_Nw (.methodLinkNest "BarrierLights$Monitor" 25 ⟨"BarrierLights", "isPhase", "(I)Z"⟩ "BarrierLights") U := h.2 ("BarrierLights$Monitor", 25, ⟨"BarrierLights", "isPhase", "(I)Z"⟩, "BarrierLights") (List.mem_of_getElem? (i := 17) rfl)
theorem nm_RX4_41 (U : State) (h : NWC U) : va_Nw (.methodLinkNest "BarrierLights$Monitor" 41 ⟨"BarrierLights", "bit", "(I)I"⟩ "BarrierLights") U := h.2 ("BarrierLights$Monitor", 41, ⟨"BarrierLights", "bit", "(I)I"⟩, "BarrierLights") (List.mem_of_getElem? (i := 18) rfl)
theorem nm_RX4_52 (U : State) (h : NWC U) : va_Nw (.methodLinkNest "BarrierLights$Monitor" 52 ⟨"BarrierLights", "ringOf", "(I)I"⟩ "BarrierLights") U := h.2 ("BarrierLights$Monitor", 52, ⟨"BarrierLights", "ringOf", "(I)I"⟩, "BarrierLights") (List.mem_of_getElem? (i := 19) rfl)
theorem nm_RX4_55 (U : State) (h : NWC U) : va_Nw (.methodLinkNest "BarrierLights$Monitor" 55 ⟨"BarrierLights", "sideOf", "(I)I"⟩ "BarrierLights") U := h.2 ("BarrierLights$Monitor", 55, ⟨"BarrierLights", "sideOf", "(I)I"⟩, "BarrierLights") (List.mem_of_getElem? (i := 20) rfl)
theorem nm_RX6_43 (U : State) (h : NWC U) : va_Nw (.methodLinkNest "BarrierLights$Ring" 43 ⟨"BarrierLights", "bit", "(I)I"⟩ "BarrierLights") U := h.2 ("BarrierLights$Ring", 43, ⟨"BarrierLights", "bit", "(I)I"⟩, "BarrierLights") (List.mem_of_getElem? (i := 21) rfl)
theorem nm_RX7_29 (U : State) (h : NWC U) : va_Nw (.methodLinkNest "BarrierLights$Table" 29 ⟨"BarrierLights", "bit", "(I)I"⟩ "BarrierLights") U := h.2 ("BarrierLights$Table", 29, ⟨"BarrierLights", "bit", "(I)I"⟩, "BarrierLights") (List.mem_of_getElem? (i := 22) rfl)
abbrev EC (l : Launch) (D : va_G) (ad : Nat → Nat) (aI aZ aF : ClassId) : jE := (l, D, wC ad aI aZ aF, AAof 43 ad, [(aI, .int), (aZ, .boolean), (aF, .float)], NWC)
theorem AA_ok (n : Nat) (ad : Nat → Nat) : (∀ sz q, sz ≤ q → AAof n ad sz q) ∧ ∀ sz sz' q, sz ≤ sz' → AAof n ad sz' q → AAof n ad sz q := ⟨fun _ _ h => Or.inr h, fun _ _ _ h1 h2 => h2.imp id (fun h => Nat.le_trans h1 h)⟩
theorem EC_ok (l : Launch) (D : va_G) (ad : Nat → Nat) (aI aZ aF : ClassId) : jOK (EC l D ad aI aZ aF) := by
  refine ⟨(AA_ok 43 ad).1, (AA_ok 43 ad).2, fun X K K' sz hD => D_of (ws := wC ad aI aZ aF K) rfl (fun q hq => ?_) hD, NWC_warm, NWC_same⟩
  have h1 : q.1 ∈ (wC ad aI aZ aF K').map (fun q => q.1) := List.mem_map_of_mem hq
  have h2 : (wC ad aI aZ aF K').map (fun q => q.1) = (List.range 43).map ad := rfl
  rw [h2] at h1
  obtain ⟨i, hi, he⟩ := List.mem_map.mp h1
  exact Or.inl ⟨i, List.mem_range.mp hi, he.symm⟩
abbrev m0 (ad : Nat → Nat) (f : Nat → Int32) : va_E := .inr (9, [.int (f 0), .int (f 1), .ref (ad 1), .ref (ad 2), .ref (ad 3), .ref (ad 4), .ref (ad 5), .ref (ad 6), .ref (ad 7), .ref (ad 8), .ref (ad 9), .ref (ad 10), .ref (ad 11), .ref (ad 12), .ref (ad 13), .ref (ad 14), .ref (ad 15), .ref (ad 16), .ref (ad 17), .ref (ad 18), .ref (ad 19), .ref (ad 20), .ref (ad 21), .ref (ad 22), .ref (ad 23), .ref (ad 24), .ref (ad 25), .ref (ad 26), .ref (ad 27), .ref (ad 28), .ref (ad 29), .ref (ad 30), .ref (ad 31), .ref (ad 32), .ref (ad 33), .ref (ad 34), .ref (ad 35)])
def wM (ad : Nat → Nat) (aI aZ aS aF : ClassId) (K : Mem) : va_W := [(ad 0, m0 ad (K 0)), (ad 1, eI aS 128 (K 1)), (ad 2, eI aS 128 (K 2)), (ad 3, eI aI 2 (K 3)), (ad 4, eI aZ 2 (K 4)), (ad 5, eI aI 2 (K 5)), (ad 6, eI aI 2 (K 6)), (ad 7, eI aZ 2 (K 7)), (ad 8, eI aZ 16 (K 8)), (ad 9, eI aZ 16 (K 9)), (ad 10, eI aZ 16 (K 10)), (ad 11, eI aZ 16 (K 11)), (ad 12, eI aS 16 (K 12)), (ad 13, eF aF 16 (K 13)), (ad 14, eI aI 16 (K 14)), (ad 15, eI aI 16 (K 15)), (ad 16, eI aI 16 (K 16)), (ad 17, eI aZ 16 (K 17)), (ad 18, eI aI 16 (K 18)), (ad 19, eI aI 4 (K 19)), (ad 20, eI aI 4 (K 20)), (ad 21, eI aI 4 (K 21)), (ad 22, eI aI 4 (K 22)), (ad 23, eI aI 4 (K 23)), (ad 24, eI aI 4 (K 24)), (ad 25, eI aI 4 (K 25)), (ad 26, eI aI 4 (K 26)), (ad 27, eI aI 4 (K 27)), (ad 28, eI aZ 4 (K 28)), (ad 29, eI aI 4 (K 29)), (ad 30, eI aI 4 (K 30)), (ad 31, eI aI 4 (K 31)), (ad 32, eI aI 2 (K 32)), (ad 33, eI aI 2 (K 33)), (ad 34, eI aI 2 (K 34)), (ad 35, eI aI 2 (K 35))]
section WM
variable {ad : Nat → Nat} {aI aZ aS aF : ClassId} {K : Mem}
theorem h_0 : (wM ad aI aZ aS aF K)[0]? = some (ad 0, m0 ad (K 0)) := rfl
theorem t_0_0 (x : Int32) : (wM ad aI aZ aS aF K).set 0 (ad 0, .inr (9, ([.int (K 0 0), .int (K 0 1), .ref (ad 1), .ref (ad 2), .ref (ad 3), .ref (ad 4), .ref (ad 5), .ref (ad 6), .ref (ad 7), .ref (ad 8), .ref (ad 9), .ref (ad 10), .ref (ad 11), .ref (ad 12), .ref (ad 13), .ref (ad 14), .ref (ad 15), .ref (ad 16), .ref (ad 17), .ref (ad 18), .ref (ad 19), .ref (ad 20), .ref (ad 21), .ref (ad 22), .ref (ad 23), .ref (ad 24), .ref (ad 25), .ref (ad 26), .ref (ad 27), .ref (ad 28), .ref (ad 29), .ref (ad 30), .ref (ad 31), .ref (ad 32), .ref (ad 33), .ref (ad 34), .ref (ad 35)] : List Value).set 0 (.int x))) = wM ad aI aZ aS aF (ks K 0 0 x) := rfl
theorem t_0_1 (x : Int32) : (wM ad aI aZ aS aF K).set 0 (ad 0, .inr (9, ([.int (K 0 0), .int (K 0 1), .ref (ad 1), .ref (ad 2), .ref (ad 3), .ref (ad 4), .ref (ad 5), .ref (ad 6), .ref (ad 7), .ref (ad 8), .ref (ad 9), .ref (ad 10), .ref (ad 11), .ref (ad 12), .ref (ad 13), .ref (ad 14), .ref (ad 15), .ref (ad 16), .ref (ad 17), .ref (ad 18), .ref (ad 19), .ref (ad 20), .ref (ad 21), .ref (ad 22), .ref (ad 23), .ref (ad 24), .ref (ad 25), .ref (ad 26), .ref (ad 27), .ref (ad 28), .ref (ad 29), .ref (ad 30), .ref (ad 31), .ref (ad 32), .ref (ad 33), .ref (ad 34), .ref (ad 35)] : List Value).set 1 (.int x))) = wM ad aI aZ aS aF (ks K 0 1 x) := rfl
theorem h_1 : (wM ad aI aZ aS aF K)[1]? = some (ad 1, eI aS 128 (K 1)) := rfl
theorem t_1 (k : Nat) (x : Int32) : (wM ad aI aZ aS aF K).set 1 (ad 1, .inl (aS, 128, .inl (upd (K 1) k x))) = wM ad aI aZ aS aF (ks K 1 k x) := rfl
theorem h_2 : (wM ad aI aZ aS aF K)[2]? = some (ad 2, eI aS 128 (K 2)) := rfl
theorem t_2 (k : Nat) (x : Int32) : (wM ad aI aZ aS aF K).set 2 (ad 2, .inl (aS, 128, .inl (upd (K 2) k x))) = wM ad aI aZ aS aF (ks K 2 k x) := rfl
theorem h_3 : (wM ad aI aZ aS aF K)[3]? = some (ad 3, eI aI 2 (K 3)) := rfl
theorem t_3 (k : Nat) (x : Int32) : (wM ad aI aZ aS aF K).set 3 (ad 3, .inl (aI, 2, .inl (upd (K 3) k x))) = wM ad aI aZ aS aF (ks K 3 k x) := rfl
theorem h_4 : (wM ad aI aZ aS aF K)[4]? = some (ad 4, eI aZ 2 (K 4)) := rfl
theorem t_4 (k : Nat) (x : Int32) : (wM ad aI aZ aS aF K).set 4 (ad 4, .inl (aZ, 2, .inl (upd (K 4) k x))) = wM ad aI aZ aS aF (ks K 4 k x) := rfl
theorem h_5 : (wM ad aI aZ aS aF K)[5]? = some (ad 5, eI aI 2 (K 5)) := rfl
theorem t_5 (k : Nat) (x : Int32) : (wM ad aI aZ aS aF K).set 5 (ad 5, .inl (aI, 2, .inl (upd (K 5) k x))) = wM ad aI aZ aS aF (ks K 5 k x) := rfl
theorem h_6 : (wM ad aI aZ aS aF K)[6]? = some (ad 6, eI aI 2 (K 6)) := rfl
theorem t_6 (k : Nat) (x : Int32) : (wM ad aI aZ aS aF K).set 6 (ad 6, .inl (aI, 2, .inl (upd (K 6) k x))) = wM ad aI aZ aS aF (ks K 6 k x) := rfl
theorem h_7 : (wM ad aI aZ aS aF K)[7]? = some (ad 7, eI aZ 2 (K 7)) := rfl
theorem t_7 (k : Nat) (x : Int32) : (wM ad aI aZ aS aF K).set 7 (ad 7, .inl (aZ, 2, .inl (upd (K 7) k x))) = wM ad aI aZ aS aF (ks K 7 k x) := rfl
theorem h_8 : (wM ad aI aZ aS aF K)[8]? = some (ad 8, eI aZ 16 (K 8)) := rfl
theorem t_8 (k : Nat) (x : Int32) : (wM ad aI aZ aS aF K).set 8 (ad 8, .inl (aZ, 16, .inl (upd (K 8) k x))) = wM ad aI aZ aS aF (ks K 8 k x) := rfl
theorem h_9 : (wM ad aI aZ aS aF K)[9]? = some (ad 9, eI aZ 16 (K 9)) := rfl
theorem t_9 (k : Nat) (x : Int32) : (wM ad aI aZ aS aF K).set 9 (ad 9, .inl (aZ, 16, .inl (upd (K 9) k x))) = wM ad aI aZ aS aF (ks K 9 k x) := rfl
theorem h_10 : (wM ad aI aZ aS aF K)[10]? = some (ad 10, eI aZ 16 (K 10)) := rfl
theorem t_10 (k : Nat) (x : Int32) : (wM ad aI aZ aS aF K).set 10 (ad 10, .inl (aZ, 16, .inl (upd (K 10) k x))) = wM ad aI aZ aS aF (ks K 10 k x) := rfl
theorem h_11 : (wM ad aI aZ aS aF K)[11]? = some (ad 11, eI aZ 16 (K 11)) := rfl
theorem t_11 (k : Nat) (x : Int32) : (wM ad aI aZ aS aF K).set 11 (ad 11, .inl (aZ, 16, .inl (upd (K 11) k x))) = wM ad aI aZ aS aF (ks K 11 k x) := rfl
theorem h_12 : (wM ad aI aZ aS aF K)[12]? = some (ad 12, eI aS 16 (K 12)) := rfl
theorem t_12 (k : Nat) (x : Int32) : (wM ad aI aZ aS aF K).set 12 (ad 12, .inl (aS, 16, .inl (upd (K 12) k x))) = wM ad aI aZ aS aF (ks K 12 k x) := rfl
theorem h_13 : (wM ad aI aZ aS aF K)[13]? = some (ad 13, eF aF 16 (K 13)) := rfl
theorem t_13 (k : Nat) (x : UInt32) : (wM ad aI aZ aS aF K).set 13 (ad 13, .inl (aF, 16, .inr (.inr (.inl (vf_upd (fun j => (K 13 j).toUInt32) k x))))) = wM ad aI aZ aS aF (ks K 13 k x.toInt32) := by
  rw [vf_up]
  rfl
theorem h_14 : (wM ad aI aZ aS aF K)[14]? = some (ad 14, eI aI 16 (K 14)) := rfl
theorem t_14 (k : Nat) (x : Int32) : (wM ad aI aZ aS aF K).set 14 (ad 14, .inl (aI, 16, .inl (upd (K 14) k x))) = wM ad aI aZ aS aF (ks K 14 k x) := rfl
theorem h_15 : (wM ad aI aZ aS aF K)[15]? = some (ad 15, eI aI 16 (K 15)) := rfl
theorem t_15 (k : Nat) (x : Int32) : (wM ad aI aZ aS aF K).set 15 (ad 15, .inl (aI, 16, .inl (upd (K 15) k x))) = wM ad aI aZ aS aF (ks K 15 k x) := rfl
theorem h_16 : (wM ad aI aZ aS aF K)[16]? = some (ad 16, eI aI 16 (K 16)) := rfl
theorem t_16 (k : Nat) (x : Int32) : (wM ad aI aZ aS aF K).set 16 (ad 16, .inl (aI, 16, .inl (upd (K 16) k x))) = wM ad aI aZ aS aF (ks K 16 k x) := rfl
theorem h_17 : (wM ad aI aZ aS aF K)[17]? = some (ad 17, eI aZ 16 (K 17)) := rfl
theorem t_17 (k : Nat) (x : Int32) : (wM ad aI aZ aS aF K).set 17 (ad 17, .inl (aZ, 16, .inl (upd (K 17) k x))) = wM ad aI aZ aS aF (ks K 17 k x) := rfl
theorem h_18 : (wM ad aI aZ aS aF K)[18]? = some (ad 18, eI aI 16 (K 18)) := rfl
theorem t_18 (k : Nat) (x : Int32) : (wM ad aI aZ aS aF K).set 18 (ad 18, .inl (aI, 16, .inl (upd (K 18) k x))) = wM ad aI aZ aS aF (ks K 18 k x) := rfl
theorem h_19 : (wM ad aI aZ aS aF K)[19]? = some (ad 19, eI aI 4 (K 19)) := rfl
theorem t_19 (k : Nat) (x : Int32) : (wM ad aI aZ aS aF K).set 19 (ad 19, .inl (aI, 4, .inl (upd (K 19) k x))) = wM ad aI aZ aS aF (ks K 19 k x) := rfl
theorem h_20 : (wM ad aI aZ aS aF K)[20]? = some (ad 20, eI aI 4 (K 20)) := rfl
theorem t_20 (k : Nat) (x : Int32) : (wM ad aI aZ aS aF K).set 20 (ad 20, .inl (aI, 4, .inl (upd (K 20) k x))) = wM ad aI aZ aS aF (ks K 20 k x) := rfl
theorem h_21 : (wM ad aI aZ aS aF K)[21]? = some (ad 21, eI aI 4 (K 21)) := rfl
theorem t_21 (k : Nat) (x : Int32) : (wM ad aI aZ aS aF K).set 21 (ad 21, .inl (aI, 4, .inl (upd (K 21) k x))) = wM ad aI aZ aS aF (ks K 21 k x) := rfl
theorem h_22 : (wM ad aI aZ aS aF K)[22]? = some (ad 22, eI aI 4 (K 22)) := rfl
theorem t_22 (k : Nat) (x : Int32) : (wM ad aI aZ aS aF K).set 22 (ad 22, .inl (aI, 4, .inl (upd (K 22) k x))) = wM ad aI aZ aS aF (ks K 22 k x) := rfl
theorem h_23 : (wM ad aI aZ aS aF K)[23]? = some (ad 23, eI aI 4 (K 23)) := rfl
theorem t_23 (k : Nat) (x : Int32) : (wM ad aI aZ aS aF K).set 23 (ad 23, .inl (aI, 4, .inl (upd (K 23) k x))) = wM ad aI aZ aS aF (ks K 23 k x) := rfl
theorem h_24 : (wM ad aI aZ aS aF K)[24]? = some (ad 24, eI aI 4 (K 24)) := rfl
theorem t_24 (k : Nat) (x : Int32) : (wM ad aI aZ aS aF K).set 24 (ad 24, .inl (aI, 4, .inl (upd (K 24) k x))) = wM ad aI aZ aS aF (ks K 24 k x) := rfl
theorem h_25 : (wM ad aI aZ aS aF K)[25]? = some (ad 25, eI aI 4 (K 25)) := rfl
theorem t_25 (k : Nat) (x : Int32) : (wM ad aI aZ aS aF K).set 25 (ad 25, .inl (aI, 4, .inl (upd (K 25) k x))) = wM ad aI aZ aS aF (ks K 25 k x) := rfl
theorem h_26 : (wM ad aI aZ aS aF K)[26]? = some (ad 26, eI aI 4 (K 26)) := rfl
theorem t_26 (k : Nat) (x : Int32) : (wM ad aI aZ aS aF K).set 26 (ad 26, .inl (aI, 4, .inl (upd (K 26) k x))) = wM ad aI aZ aS aF (ks K 26 k x) := rfl
theorem h_27 : (wM ad aI aZ aS aF K)[27]? = some (ad 27, eI aI 4 (K 27)) := rfl
theorem t_27 (k : Nat) (x : Int32) : (wM ad aI aZ aS aF K).set 27 (ad 27, .inl (aI, 4, .inl (upd (K 27) k x))) = wM ad aI aZ aS aF (ks K 27 k x) := rfl
theorem h_28 : (wM ad aI aZ aS aF K)[28]? = some (ad 28, eI aZ 4 (K 28)) := rfl
theorem t_28 (k : Nat) (x : Int32) : (wM ad aI aZ aS aF K).set 28 (ad 28, .inl (aZ, 4, .inl (upd (K 28) k x))) = wM ad aI aZ aS aF (ks K 28 k x) := rfl
theorem h_29 : (wM ad aI aZ aS aF K)[29]? = some (ad 29, eI aI 4 (K 29)) := rfl
theorem t_29 (k : Nat) (x : Int32) : (wM ad aI aZ aS aF K).set 29 (ad 29, .inl (aI, 4, .inl (upd (K 29) k x))) = wM ad aI aZ aS aF (ks K 29 k x) := rfl
theorem h_30 : (wM ad aI aZ aS aF K)[30]? = some (ad 30, eI aI 4 (K 30)) := rfl
theorem t_30 (k : Nat) (x : Int32) : (wM ad aI aZ aS aF K).set 30 (ad 30, .inl (aI, 4, .inl (upd (K 30) k x))) = wM ad aI aZ aS aF (ks K 30 k x) := rfl
theorem h_31 : (wM ad aI aZ aS aF K)[31]? = some (ad 31, eI aI 4 (K 31)) := rfl
theorem t_31 (k : Nat) (x : Int32) : (wM ad aI aZ aS aF K).set 31 (ad 31, .inl (aI, 4, .inl (upd (K 31) k x))) = wM ad aI aZ aS aF (ks K 31 k x) := rfl
theorem h_32 : (wM ad aI aZ aS aF K)[32]? = some (ad 32, eI aI 2 (K 32)) := rfl
theorem t_32 (k : Nat) (x : Int32) : (wM ad aI aZ aS aF K).set 32 (ad 32, .inl (aI, 2, .inl (upd (K 32) k x))) = wM ad aI aZ aS aF (ks K 32 k x) := rfl
theorem h_33 : (wM ad aI aZ aS aF K)[33]? = some (ad 33, eI aI 2 (K 33)) := rfl
theorem t_33 (k : Nat) (x : Int32) : (wM ad aI aZ aS aF K).set 33 (ad 33, .inl (aI, 2, .inl (upd (K 33) k x))) = wM ad aI aZ aS aF (ks K 33 k x) := rfl
theorem h_34 : (wM ad aI aZ aS aF K)[34]? = some (ad 34, eI aI 2 (K 34)) := rfl
theorem t_34 (k : Nat) (x : Int32) : (wM ad aI aZ aS aF K).set 34 (ad 34, .inl (aI, 2, .inl (upd (K 34) k x))) = wM ad aI aZ aS aF (ks K 34 k x) := rfl
theorem h_35 : (wM ad aI aZ aS aF K)[35]? = some (ad 35, eI aI 2 (K 35)) := rfl
theorem t_35 (k : Nat) (x : Int32) : (wM ad aI aZ aS aF K).set 35 (ad 35, .inl (aI, 2, .inl (upd (K 35) k x))) = wM ad aI aZ aS aF (ks K 35 k x) := rfl
end WM
abbrev EM (l : Launch) (D : va_G) (ad : Nat → Nat) (aI aZ aS aF : ClassId) : jE := (l, D, wM ad aI aZ aS aF, AAof 36 ad, [(aI, .int), (aZ, .boolean), (aS, .short), (aF, .float)], fun _ => True)
theorem EM_ok (l : Launch) (D : va_G) (ad : Nat → Nat) (aI aZ aS aF : ClassId) : jOK (EM l D ad aI aZ aS aF) := by
  refine ⟨(AA_ok 36 ad).1, (AA_ok 36 ad).2, fun X K K' sz hD => D_of (ws := wM ad aI aZ aS aF K) rfl (fun q hq => ?_) hD, fun _ _ _ _ => trivial, fun _ _ _ _ => trivial⟩
  have h1 : q.1 ∈ (wM ad aI aZ aS aF K').map (fun q => q.1) := List.mem_map_of_mem hq
  have h2 : (wM ad aI aZ aS aF K').map (fun q => q.1) = (List.range 36).map ad := rfl
  rw [h2] at h1
  obtain ⟨i, hi, he⟩ := List.mem_map.mp h1
  exact Or.inl ⟨i, List.mem_range.mp hi, he.symm⟩
