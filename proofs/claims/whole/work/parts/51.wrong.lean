/-! ENACTING: where a table is wrong -/
def bad (D : Nat → Int32) (p w : Nat) : Bool :=
  if w = 0 then !decide (D (8 * p) ≤ 30) else if w = 1 then !decide (D (8 * p + 1) ≤ 10) else if w = 2 then (decide (D (8 * p + 2) < D (8 * p)) || !decide (D (8 * p + 2) ≤ 60)) else if w = 3 then (decide (D (8 * p + 3) < 3) || !decide (D (8 * p + 3) ≤ 6)) else if w = 4 then !decide (D (8 * p + 4) ≤ 4) else if w = 5 then !decide (D (8 * p + 5) ≤ 20) else if w = 6 then (if D (8 * p + 5) = 0 then !decide (D (8 * p + 6) = 0) else (decide (D (8 * p + 6) = 0) || !decide (D (8 * p + 6) ≤ 20))) else (decide (3 < D (8 * p + 7)) || (decide (D (8 * p + 7) = 3) && decide (D (8 * p + 5) = 0)))
def fw (f : Nat → Bool) : Nat → Nat → Option Nat
  | 0, _ => none
  | j + 1, i => if f i = true then some i else fw f j (i + 1)
section Wr
variable {b c p : Nat} {K M : Mem}
theorem M_isWrong (hc : c < 2) (hp : p < 8) {w : Nat} (hw : w < 8) : f_X9_isWrong (nI (64 * c + 8 * p)) (nI w) M = some (bi (bad (fun i => M 1 (64 * c + i)) p w)) := by
  have i0 : inb (nI (64 * c + 8 * p)) 128 = true := inb_t (by omega) (by omega)
  have x0 : ix (nI (64 * c + 8 * p)) = 64 * c + 8 * p := ix_nI (by omega)
  have i5 : inb (nI (64 * c + 8 * p + 5)) 128 = true := inb_t (by omega) (by omega)
  have x5 : ix (nI (64 * c + 8 * p + 5)) = 64 * c + 8 * p + 5 := ix_nI (by omega)
  have iw : inb (nI (64 * c + 8 * p + w)) 128 = true := inb_t (by omega) (by omega)
  have xw : ix (nI (64 * c + 8 * p + w)) = 64 * c + 8 * p + w := ix_nI (by omega)
  simp only [f_X9_isWrong, n_ak, n_a5, i0, x0, i5, x5, iw, xw, if_true, lt]
  have e : ∀ k, 64 * c + (8 * p + k) = 64 * c + 8 * p + k := fun k => by omega
  unfold bad
  simp only [e]
  rcases (show w = 0 ∨ w = 1 ∨ w = 2 ∨ w = 3 ∨ w = 4 ∨ w = 5 ∨ w = 6 ∨ w = 7 by omega) with rfl | rfl | rfl | rfl | rfl | rfl | rfl | rfl
  · rw [show nI 0 = (0 : Int32) from rfl]
    by_cases q0 : M 1 (64 * c + 8 * p) ≤ 30 <;> simp [q0, bi]
  · rw [show nI 1 = (1 : Int32) from rfl]
    by_cases q0 : M 1 (64 * c + 8 * p + 1) ≤ 10 <;> simp [q0, bi]
  · rw [show nI 2 = (2 : Int32) from rfl]
    by_cases q0 : M 1 (64 * c + 8 * p + 2) < M 1 (64 * c + 8 * p) <;> by_cases q1 : M 1 (64 * c + 8 * p + 2) ≤ 60 <;> simp [q0, q1, bi]
  · rw [show nI 3 = (3 : Int32) from rfl]
    by_cases q0 : M 1 (64 * c + 8 * p + 3) < 3 <;> by_cases q1 : M 1 (64 * c + 8 * p + 3) ≤ 6 <;> simp [q0, q1, bi]
  · rw [show nI 4 = (4 : Int32) from rfl]
    by_cases q0 : M 1 (64 * c + 8 * p + 4) ≤ 4 <;> simp [q0, bi]
  · rw [show nI 5 = (5 : Int32) from rfl]
    by_cases q0 : M 1 (64 * c + 8 * p + 5) ≤ 20 <;> simp [q0, bi]
  · rw [show nI 6 = (6 : Int32) from rfl]
    by_cases q0 : M 1 (64 * c + 8 * p + 5) = 0 <;> by_cases q1 : M 1 (64 * c + 8 * p + 6) = 0 <;> by_cases q2 : M 1 (64 * c + 8 * p + 6) ≤ 20 <;> simp [q0, q1, q2, bi]
  · rw [show nI 7 = (7 : Int32) from rfl]
    by_cases q0 : 3 < M 1 (64 * c + 8 * p + 7) <;> by_cases q1 : M 1 (64 * c + 8 * p + 7) = 3 <;> by_cases q2 : M 1 (64 * c + 8 * p + 5) = 0 <;> simp [q0, q1, q2, bi]
theorem C_isRight (hp : p < 8) {w : Nat} (hw : w < 8) (hD : ∀ i, i < 64 → ∃ n, n ≤ 99 ∧ K (b + 1) i = nI n) : f_X7_isRight b (nI p) (nI w) K = some (bi (!bad (fun i => K (b + 1) i) p w)) := by
  have ew : (if K (b + 1) (8 * p + 5) = 0 then some 0 else some 1 : Option Int32) = some (bi (!decide (K (b + 1) (8 * p + 5) = 0))) := by
    by_cases q : K (b + 1) (8 * p + 5) = 0 <;> simp [q, bi]
  simp only [f_X7_isRight, C_at hp hw, ob, lt, C_at5 hp, ew, C_at0 hp]
  unfold bad
  have nl : ∀ x y : Int32, x < y ↔ ¬ y ≤ x := fun x y => Int32.not_le.symm
  rcases (show w = 0 ∨ w = 1 ∨ w = 2 ∨ w = 3 ∨ w = 4 ∨ w = 5 ∨ w = 6 ∨ w = 7 by omega) with rfl | rfl | rfl | rfl | rfl | rfl | rfl | rfl
  · rw [show nI 0 = (0 : Int32) from rfl]
    have z := nl 30 (K (b + 1) (8 * p))
    by_cases q : K (b + 1) (8 * p) ≤ 30 <;> simp [q, z, bi]
  · rw [show nI 1 = (1 : Int32) from rfl]
    have z := nl 10 (K (b + 1) (8 * p + 1))
    by_cases q : K (b + 1) (8 * p + 1) ≤ 10 <;> simp [q, z, bi]
  · rw [show nI 2 = (2 : Int32) from rfl]
    have z := nl 60 (K (b + 1) (8 * p + 2))
    by_cases q1 : K (b + 1) (8 * p + 2) < K (b + 1) (8 * p) <;> by_cases q : K (b + 1) (8 * p + 2) ≤ 60 <;> simp [q, z, q1, bi]
  · rw [show nI 3 = (3 : Int32) from rfl]
    have z := nl 6 (K (b + 1) (8 * p + 3))
    by_cases q1 : K (b + 1) (8 * p + 3) < 3 <;> by_cases q : K (b + 1) (8 * p + 3) ≤ 6 <;> simp [q, z, q1, bi]
  · rw [show nI 4 = (4 : Int32) from rfl]
    have z := nl 4 (K (b + 1) (8 * p + 4))
    by_cases q : K (b + 1) (8 * p + 4) ≤ 4 <;> simp [q, z, bi]
  · rw [show nI 5 = (5 : Int32) from rfl]
    have z := nl 20 (K (b + 1) (8 * p + 5))
    by_cases q : K (b + 1) (8 * p + 5) ≤ 20 <;> simp [q, z, bi]
  · rw [show nI 6 = (6 : Int32) from rfl]
    obtain ⟨n, hn, e6⟩ := hD (8 * p + 6) (by omega)
    have q1 : K (b + 1) (8 * p + 6) < 1 ↔ K (b + 1) (8 * p + 6) = 0 := by
      rw [e6]
      exact (lt_nI (b := 1) (by omega) (by omega)).trans ⟨fun q => (nI_eq0 (by omega)).mpr (by omega), fun q => by have := (nI_eq0 (by omega)).mp q; omega⟩
    have z := nl 20 (K (b + 1) (8 * p + 6))
    by_cases q : K (b + 1) (8 * p + 5) = 0 <;> by_cases q2 : K (b + 1) (8 * p + 6) = 0 <;> by_cases q3 : K (b + 1) (8 * p + 6) ≤ 20 <;> simp [q, q2, q3, q1, z, bi]
  · rw [show nI 7 = (7 : Int32) from rfl]
    have z : K (b + 1) (8 * p + 7) < 3 ↔ (¬ (3 : Int32) < K (b + 1) (8 * p + 7) ∧ ¬ K (b + 1) (8 * p + 7) = 3) := by
      constructor
      · intro q
        exact ⟨fun e => Int32.lt_irrefl (Int32.lt_trans q e), fun e => by rw [e] at q; exact absurd q (by decide)⟩
      · intro q
        exact Int32.lt_of_le_of_ne (Int32.not_lt.mp q.1) q.2
    by_cases q : 3 < K (b + 1) (8 * p + 7) <;> by_cases q2 : K (b + 1) (8 * p + 7) = 3 <;> by_cases q3 : K (b + 1) (8 * p + 5) = 0 <;> simp [z, q, q2, q3, bi]
end Wr
