/-! THE RELATION between the class's memory K (a crossing's cells b .. b+18) and the reference's memory M (its slices of crossing c). Rows of M: 1 draft, 2 table, 3 wrong, 4 off, 5 why, 6 side, 7 greater, 8 used, 9 calls, 10 walkCalls, 11 on, 12 onTime, 13 occupied, 14 faults, 15 shown, 16 darks, 17 went, 18 yellows, 19 state, 20 phase, 21 follows, 22 age, 23 against, 24 gap, 25 walker, 26 walked, 27 targets, 28 inputs, 29 cycle, 30 offset, 31 split, 32 plan, 33 last, 34 silence, 35 local; 0: code, clock. -/
def lmp (s : Nat) : Nat := if s = 1 then 4 else if s = 2 then 2 else if s = 3 then 1 else 0
def fpos (r : UInt32) : Prop := (∃ c q, FP.Core.decode FP.Core.b32 r.toNat = .fin false c q) ∨ FP.Core.decode FP.Core.b32 r.toNat = .inf false
def lampv (x : Int32) : Prop := x = 0 ∨ x = 1 ∨ x = 2 ∨ x = 4 ∨ x = 5 ∨ x = 6
def one (M : Mem) (row k : Nat) : Bool := decide (M row k = 1)
def rTab (b c : Nat) (K M : Mem) : Prop := ∀ i, i < 64 → K (b + 2) i = M 1 (64 * c + i) ∧ K (b + 4) i = M 2 (64 * c + i) ∧ (∃ n, n ≤ 99 ∧ M 1 (64 * c + i) = nI n) ∧ ∃ n, n ≤ 99 ∧ M 2 (64 * c + i) = nI n
def rUse (b c : Nat) (K M : Mem) : Prop := mk (K b 10) (fun p => one M 8 (8 * c + p)) ∧ ∀ p, p < 8 → z01 (M 8 (8 * c + p)) ∧ (M 8 (8 * c + p) = 1 ↔ ¬ M 2 (64 * c + 8 * p) = 0)
def rCal (b c : Nat) (K M : Mem) : Prop := mk (K b 13) (fun p => one M 9 (8 * c + p)) ∧ mk (K b 14) (fun p => one M 10 (8 * c + p)) ∧ ∀ p, p < 8 → z01 (M 9 (8 * c + p)) ∧ z01 (M 10 (8 * c + p)) ∧ (M 9 (8 * c + p) = 1 → M 8 (8 * c + p) = 1) ∧ (M 10 (8 * c + p) = 1 → M 8 (8 * c + p) = 1)
def rDet (b c : Nat) (K M : Mem) : Prop := mk (K (b + 5) 2) (fun p => one M 11 (8 * c + p)) ∧ mk (K (b + 5) 3) (fun p => decide ((60 : Int32) ≤ M 12 (8 * c + p))) ∧ ∀ p, p < 8 → z01 (M 11 (8 * c + p)) ∧ K (b + 6) p = M 12 (8 * c + p) ∧ (∃ n, n ≤ 100 ∧ M 12 (8 * c + p) = nI n) ∧ K (b + 7) p = M 13 (8 * c + p) ∧ fpos (M 13 (8 * c + p)).toUInt32
def rLnk (b c : Nat) (K M : Mem) : Prop := K (b + 8) 0 = M 32 c ∧ K (b + 8) 1 = M 35 c ∧ K (b + 8) 2 = M 34 c ∧ K (b + 8) 3 = M 33 c ∧ (M 32 c = -1 ∨ ∃ j, j < 4 ∧ M 32 c = nI j ∧ ¬ M 29 j = 0 ∧ ∃ n, n < 30 ∧ M 34 c = nI n) ∧ (∃ n, n < 120 ∧ M 35 c = nI n) ∧ (M 33 c = -1 ∨ ∃ j, j < 8 ∧ M 33 c = nI j)
def rInp (b c : Nat) (K M : Mem) : Prop := ∀ i, i < 2 → K (b + 10) i = M 28 (2 * c + i) ∧ z01 (M 28 (2 * c + i)) ∧ K (b + 11) i = M 27 (2 * c + i) ∧ (M 27 (2 * c + i) = -1 ∨ ∃ j, j < 8 ∧ M 27 (2 * c + i) = nI j)
def rSc (b c : Nat) (K M : Mem) : Prop := K b 9 = M 3 c ∧ K b 11 = M 5 c ∧ K b 12 = M 6 c ∧ z01 (M 6 c) ∧ M 4 c = bi (decide (K b 10 = 0)) ∧ z01 (M 7 c) ∧ z01 (K b 15) ∧ (∃ n, n < 4 ∧ M 5 c = nI n) ∧ (¬ M 5 c = 0 → ¬ K b 10 = 0)
def rHad (b c : Nat) (K M : Mem) : Prop := K b 15 = M 7 c ∨ (M 7 c = 0 ∧ (∀ p, p < 8 → M 8 (8 * c + p) = 1 → M 9 (8 * c + p) = 1) ∧ M 19 (2 * c) = 0 ∧ M 19 (2 * c + 1) = 0)
/-- a phase of ring r, used, of the present side -/
def rPh (c r : Nat) (M : Mem) (x : Int32) : Prop := ∃ q, q < 4 ∧ x = nI (4 * r + q) ∧ M 8 (8 * c + (4 * r + q)) = 1 ∧ M 6 c = nI (q / 2)
def rRing (b c r : Nat) (K M : Mem) : Prop := (∃ s, s < 4 ∧ M 19 (2 * c + r) = nI s ∧ K (b + 16 + r) 4 = nI (lmp s)) ∧ K (b + 16 + r) 0 = M 20 (2 * c + r) ∧ K (b + 16 + r) 5 = M 22 (2 * c + r) ∧ K (b + 16 + r) 6 = M 23 (2 * c + r) ∧ K (b + 16 + r) 7 = M 24 (2 * c + r) ∧ (∃ n, n ≤ 99 ∧ M 24 (2 * c + r) = nI n) ∧ (M 19 (2 * c + r) = 0 → M 20 (2 * c + r) = -1) ∧ (¬ M 19 (2 * c + r) = 0 → rPh c r M (M 20 (2 * c + r)) ∧ K (b + 16 + r) 1 = M 21 (2 * c + r) ∧ (M 21 (2 * c + r) = -1 ∨ rPh c r M (M 21 (2 * c + r)))) ∧ (∃ w, w < 3 ∧ M 25 (2 * c + r) = nI w ∧ K (b + 16 + r) 8 = nI (4 * w)) ∧ (¬ M 25 (2 * c + r) = 0 → K (b + 16 + r) 9 = M 26 (2 * c + r) ∧ M 19 (2 * c + r) = 1)
def rMon (b c : Nat) (K M : Mem) : Prop := z01 (K (b + 12) 3) ∧ ∀ p, p < 8 → K (b + 15) p = M 18 (8 * c + p) ∧ (lampv (K (b + 14) p) ∧ (M 8 (8 * c + p) = 0 → K (b + 14) p = 0)) ∧ M 17 (8 * c + p) = bi (decide (¬ K (b + 14) p &&& 6 = 0)) ∧ (M 5 c = 0 → M 16 (8 * c + p) = bi (decide (M 8 (8 * c + p) = 1 ∧ K (b + 12) 3 = 1 ∧ K (b + 14) p = 0))) ∧ K (b + 18) p = M 14 (8 * c + p) ∧ ∃ n, n < 4 ∧ M 14 (8 * c + p) = nI n
def RC (b c : Nat) (K M : Mem) : Prop := rTab b c K M ∧ rUse b c K M ∧ rCal b c K M ∧ rDet b c K M ∧ rLnk b c K M ∧ rInp b c K M ∧ rSc b c K M ∧ rHad b c K M ∧ rRing b c 0 K M ∧ rRing b c 1 K M ∧ rMon b c K M
def rPl (K M : Mem) : Prop := ∀ j, j < 4 → K 2 j = M 29 j ∧ K 3 j = M 30 j ∧ K 4 j = M 31 j ∧ (M 29 j = 0 ∨ ∃ y o s, 20 ≤ y ∧ y ≤ 120 ∧ o < y ∧ 1 ≤ s ∧ s < y ∧ M 29 j = nI y ∧ M 30 j = nI o ∧ M 31 j = nI s)
def RG (T : Nat) (K M : Mem) : Prop := K 0 3 = M 0 1 ∧ (∃ k, k ≤ T ∧ M 0 1 = nI k) ∧ rPl K M
def RR (T : Nat) (K M : Mem) : Prop := RG T K M ∧ RC 5 0 K M ∧ RC 24 1 K M
/-! frames -/
def inM (c row k : Nat) : Prop := (29 ≤ row ∧ row ≤ 31) ∨ (64 * c ≤ k ∧ k < 64 * c + 64 ∧ (row = 1 ∨ row = 2)) ∨ (k = c ∧ (3 ≤ row ∧ row ≤ 7 ∨ 32 ≤ row ∧ row ≤ 35)) ∨ (8 * c ≤ k ∧ k < 8 * c + 8 ∧ 8 ≤ row ∧ row ≤ 18) ∨ (2 * c ≤ k ∧ k < 2 * c + 2 ∧ 19 ≤ row ∧ row ≤ 28)
/-- as far as crossing (b, c) goes, nothing has changed -/
def eqK (b : Nat) (K K' : Mem) : Prop := ∀ i k, i < 19 → K' (b + i) k = K (b + i) k
def eqM (c : Nat) (M M' : Mem) : Prop := ∀ row k, inM c row k → M' row k = M row k
section Fr
variable {b c : Nat} {K K' M M' : Mem}
theorem one_fr (hM : eqM c M M') {row k : Nat} (h : inM c row k) : one M' row k = one M row k := by
  unfold one
  rw [hM row k h]
theorem rTab_fr (hK : eqK b K K') (hM : eqM c M M') (h : rTab b c K M) : rTab b c K' M' := by
  intro i hi
  rw [hK 2 i (by omega), hK 4 i (by omega), hM 1 _ (by unfold inM; omega), hM 2 _ (by unfold inM; omega)]
  exact h i hi
theorem rUse_fr (hK : eqK b K K') (hM : eqM c M M') (h : rUse b c K M) : rUse b c K' M' := by
  have h0 : K' b 10 = K b 10 := hK 0 10 (by omega)
  refine ⟨?_, fun p hp => ?_⟩
  · rw [h0]
    exact mk_congr h.1 (fun i hi => (one_fr hM (by unfold inM; omega)).symm)
  · rw [hM 8 _ (by unfold inM; omega), hM 2 _ (by unfold inM; omega)]
    exact h.2 p hp
theorem rCal_fr (hK : eqK b K K') (hM : eqM c M M') (h : rCal b c K M) : rCal b c K' M' := by
  have h0 : K' b 13 = K b 13 := hK 0 13 (by omega)
  have h1 : K' b 14 = K b 14 := hK 0 14 (by omega)
  refine ⟨?_, ?_, fun p hp => ?_⟩
  · rw [h0]
    exact mk_congr h.1 (fun i hi => (one_fr hM (by unfold inM; omega)).symm)
  · rw [h1]
    exact mk_congr h.2.1 (fun i hi => (one_fr hM (by unfold inM; omega)).symm)
  · rw [hM 8 _ (by unfold inM; omega), hM 9 _ (by unfold inM; omega), hM 10 _ (by unfold inM; omega)]
    exact h.2.2 p hp
theorem rDet_fr (hK : eqK b K K') (hM : eqM c M M') (h : rDet b c K M) : rDet b c K' M' := by
  refine ⟨?_, ?_, fun p hp => ?_⟩
  · rw [hK 5 2 (by omega)]
    exact mk_congr h.1 (fun i hi => (one_fr hM (by unfold inM; omega)).symm)
  · rw [hK 5 3 (by omega)]
    exact mk_congr h.2.1 (fun i hi => by rw [hM 12 _ (by unfold inM; omega)])
  · rw [hM 11 _ (by unfold inM; omega), hM 12 _ (by unfold inM; omega), hM 13 _ (by unfold inM; omega), hK 6 p (by omega), hK 7 p (by omega)]
    exact h.2.2 p hp
theorem rLnk_fr (hK : eqK b K K') (hM : eqM c M M') (h : rLnk b c K M) : rLnk b c K' M' := by
  unfold rLnk
  rw [hK 8 0 (by omega), hK 8 1 (by omega), hK 8 2 (by omega), hK 8 3 (by omega), hM 32 c (by unfold inM; omega), hM 33 c (by unfold inM; omega), hM 34 c (by unfold inM; omega), hM 35 c (by unfold inM; omega)]
  obtain ⟨h1, h2, h3, h4, h5, h6, h7⟩ := h
  refine ⟨h1, h2, h3, h4, h5.imp id ?_, h6, h7⟩
  rintro ⟨j, hj, e1, e2, e3⟩
  exact ⟨j, hj, e1, by rw [hM 29 j (by unfold inM; omega)]; exact e2, e3⟩
theorem rInp_fr (hK : eqK b K K') (hM : eqM c M M') (h : rInp b c K M) : rInp b c K' M' := by
  intro i hi
  rw [hK 10 i (by omega), hK 11 i (by omega), hM 28 _ (by unfold inM; omega), hM 27 _ (by unfold inM; omega)]
  exact h i hi
theorem rSc_fr (hK : eqK b K K') (hM : eqM c M M') (h : rSc b c K M) : rSc b c K' M' := by
  have h9 : K' b 9 = K b 9 := hK 0 9 (by omega)
  have h10 : K' b 10 = K b 10 := hK 0 10 (by omega)
  have h11 : K' b 11 = K b 11 := hK 0 11 (by omega)
  have h12 : K' b 12 = K b 12 := hK 0 12 (by omega)
  have h15 : K' b 15 = K b 15 := hK 0 15 (by omega)
  unfold rSc
  rw [h9, h10, h11, h12, h15, hM 3 c (by unfold inM; omega), hM 4 c (by unfold inM; omega), hM 5 c (by unfold inM; omega), hM 6 c (by unfold inM; omega), hM 7 c (by unfold inM; omega)]
  exact h
theorem rHad_fr (hK : eqK b K K') (hM : eqM c M M') (h : rHad b c K M) : rHad b c K' M' := by
  have h15 : K' b 15 = K b 15 := hK 0 15 (by omega)
  unfold rHad
  rw [h15, hM 7 c (by unfold inM; omega), hM 19 _ (by unfold inM; omega), hM 19 _ (by unfold inM; omega)]
  refine h.imp id ?_
  rintro ⟨e1, e2, e3⟩
  exact ⟨e1, fun p hp => by rw [hM 8 _ (by unfold inM; omega), hM 9 _ (by unfold inM; omega)]; exact e2 p hp, e3⟩
theorem rPh_fr (hM : eqM c M M') {r : Nat} (hr : r < 2) {x : Int32} (h : rPh c r M x) : rPh c r M' x := by
  obtain ⟨q, hq, e1, e2, e3⟩ := h
  exact ⟨q, hq, e1, by rw [hM 8 _ (by unfold inM; omega)]; exact e2, by rw [hM 6 c (by unfold inM; omega)]; exact e3⟩
theorem rRing_fr (hK : eqK b K K') (hM : eqM c M M') {r : Nat} (hr : r < 2) (h : rRing b c r K M) : rRing b c r K' M' := by
  have k : ∀ j, K' (b + 16 + r) j = K (b + 16 + r) j := fun j => by rw [Nat.add_assoc]; exact hK (16 + r) j (by omega)
  have m : ∀ row, 19 ≤ row → row ≤ 28 → M' row (2 * c + r) = M row (2 * c + r) := fun row h1 h2 => hM row _ (by unfold inM; omega)
  unfold rRing
  rw [k, k, k, k, k, k, k, k, m 19 (by omega) (by omega), m 20 (by omega) (by omega), m 21 (by omega) (by omega), m 22 (by omega) (by omega), m 23 (by omega) (by omega), m 24 (by omega) (by omega), m 25 (by omega) (by omega), m 26 (by omega) (by omega)]
  obtain ⟨h1, h2, h3, h4, h5, h6, h7, h8, h9, h10⟩ := h
  refine ⟨h1, h2, h3, h4, h5, h6, h7, fun hs => ?_, h9, h10⟩
  obtain ⟨a1, a2, a3⟩ := h8 hs
  exact ⟨rPh_fr hM hr a1, a2, a3.imp id (rPh_fr hM hr)⟩
theorem rMon_fr (hK : eqK b K K') (hM : eqM c M M') (h : rMon b c K M) : rMon b c K' M' := by
  refine ⟨by rw [hK 12 3 (by omega)]; exact h.1, fun p hp => ?_⟩
  rw [hK 15 p (by omega), hK 14 p (by omega), hK 12 3 (by omega), hK 18 p (by omega), hM 18 _ (by unfold inM; omega), hM 17 _ (by unfold inM; omega), hM 16 _ (by unfold inM; omega), hM 14 _ (by unfold inM; omega), hM 8 _ (by unfold inM; omega), hM 5 c (by unfold inM; omega)]
  exact h.2 p hp
theorem RC_fr (hK : eqK b K K') (hM : eqM c M M') (h : RC b c K M) : RC b c K' M' := by
  obtain ⟨h1, h2, h3, h4, h5, h6, h7, h8, h9, h10, h11⟩ := h
  exact ⟨rTab_fr hK hM h1, rUse_fr hK hM h2, rCal_fr hK hM h3, rDet_fr hK hM h4, rLnk_fr hK hM h5, rInp_fr hK hM h6, rSc_fr hK hM h7, rHad_fr hK hM h8, rRing_fr hK hM (by omega) h9, rRing_fr hK hM (by omega) h10, rMon_fr hK hM h11⟩
end Fr
