/-! THE CLASS'S small functions, evaluated -/
section LC
variable {K M : Mem} {b c p : Nat}
theorem C_bit (hp : p < 8) : f_X8_bit (nI p) K = some (jshl 1 (nI p)) := by
  unfold f_X8_bit
  rw [if_neg (nI_ge0 (by omega)), if_neg (c8_no hp)]
theorem C_bitm : f_X8_bit (-1) K = some 0 := rfl
theorem C_isPh (hp : p < 8) : f_X8_isPhase (nI p) K = some 1 := by
  unfold f_X8_isPhase
  rw [if_neg (nI_ge0 (by omega)), if_neg (c8_no hp)]
theorem C_ringOf (hp : p < 8) : f_X8_ringOf (nI p) K = some (nI (p / 4)) := by
  unfold f_X8_ringOf
  have h4 : (4 : Int32) ≤ nI p ↔ 4 ≤ p := q_le 4 p (by omega) (by omega)
  by_cases h : 4 ≤ p
  · rw [if_pos (h4.mpr h), show p / 4 = 1 by omega]
    rfl
  · rw [if_neg (fun e => h (h4.mp e)), show p / 4 = 0 by omega]
    rfl
theorem C_ring {r : Nat} (hr : r < 2) : f_X0_ring b (nI r) K = some (b + 16 + r) := by
  rcases (show r = 0 ∨ r = 1 by omega) with rfl | rfl <;> rfl
theorem C_sideOf (hp : p < 8) : f_X8_sideOf (nI p) K = some (nI (p % 4 / 2)) := by
  rcases (show p = 0 ∨ p = 1 ∨ p = 2 ∨ p = 3 ∨ p = 4 ∨ p = 5 ∨ p = 6 ∨ p = 7 by omega) with rfl | rfl | rfl | rfl | rfl | rfl | rfl | rfl <;> rfl
theorem C_at {w : Nat} (hp : p < 8) (hw : w < 8) : f_X7_at b (nI p) (nI w) K = some (K (b + 1) (8 * p + w)) := by
  unfold f_X7_at
  rw [n_8r, n_ak]
  show (if nI (8 * p + w) < 0 then _ else _) = _
  have h64 : ¬ (64 : Int32) ≤ nI (8 * p + w) := fun e => absurd ((q_le 64 (8 * p + w) (by omega) (by omega)).mp e) (by omega)
  rw [if_neg (nI_ge0 (by omega)), if_neg h64, if_pos (inb_t (by omega) (by omega)), ix_nI (by omega)]
theorem C_at0 (hp : p < 8) : f_X7_at b (nI p) 0 K = some (K (b + 1) (8 * p)) := C_at (w := 0) hp (by omega)
theorem C_at1 (hp : p < 8) : f_X7_at b (nI p) 1 K = some (K (b + 1) (8 * p + 1)) := C_at (w := 1) hp (by omega)
theorem C_at2 (hp : p < 8) : f_X7_at b (nI p) 2 K = some (K (b + 1) (8 * p + 2)) := C_at (w := 2) hp (by omega)
theorem C_at3 (hp : p < 8) : f_X7_at b (nI p) 3 K = some (K (b + 1) (8 * p + 3)) := C_at (w := 3) hp (by omega)
theorem C_at4 (hp : p < 8) : f_X7_at b (nI p) 4 K = some (K (b + 1) (8 * p + 4)) := C_at (w := 4) hp (by omega)
theorem C_at5 (hp : p < 8) : f_X7_at b (nI p) 5 K = some (K (b + 1) (8 * p + 5)) := C_at (w := 5) hp (by omega)
theorem C_at6 (hp : p < 8) : f_X7_at b (nI p) 6 K = some (K (b + 1) (8 * p + 6)) := C_at (w := 6) hp (by omega)
theorem C_at7 (hp : p < 8) : f_X7_at b (nI p) 7 K = some (K (b + 1) (8 * p + 7)) := C_at (w := 7) hp (by omega)
theorem C_atm (x : Int32) (h : (-1) * 8 + x < 0) : f_X7_at b (-1) x K = some 0 := by
  unfold f_X7_at
  show (if (-1) * 8 + x < 0 then _ else _) = _
  rw [if_pos h]
theorem C_isUsed (hp : p < 8) : f_X7_isUsed b (nI p) K = some (bi (!decide (K (b + 1) (8 * p) = 0))) := by
  unfold f_X7_isUsed
  rw [C_at0 hp, ob]
  by_cases h : K (b + 1) (8 * p) = 0 <;> simp [h, bi]
theorem C_waits : f_X6_waits b K = some (bi (decide (K b 0 = -1))) := by
  unfold f_X6_waits
  by_cases h : K b 0 = -1 <;> simp [h, bi]
theorem C_isGreen : f_X6_isGreen b K = some (bi (decide (K b 4 = 4))) := by
  unfold f_X6_isGreen
  by_cases h : K b 4 = 4 <;> simp [h, bi]
theorem lmp_4 {s : Nat} (h : s < 4) : nI (lmp s) = 4 ↔ nI s = 1 := by
  rcases (show s = 0 ∨ s = 1 ∨ s = 2 ∨ s = 3 by omega) with rfl | rfl | rfl | rfl <;> decide
theorem lmp_2 {s : Nat} (h : s < 4) : nI (lmp s) = 2 ↔ nI s = 2 := by
  rcases (show s = 0 ∨ s = 1 ∨ s = 2 ∨ s = 3 by omega) with rfl | rfl | rfl | rfl <;> decide
theorem lmp_1 {s : Nat} (h : s < 4) : nI (lmp s) = 1 ↔ nI s = 3 := by
  rcases (show s = 0 ∨ s = 1 ∨ s = 2 ∨ s = 3 by omega) with rfl | rfl | rfl | rfl <;> decide
/-- what a ring shows, by the relation -/
theorem rg_green {r : Nat} (h : rRing b c r K M) : K (b + 16 + r) 4 = 4 ↔ M 19 (2 * c + r) = 1 := by
  obtain ⟨⟨s, hs, e1, e2⟩, -⟩ := h
  rw [e1, e2]
  exact lmp_4 hs
theorem rg_yellow {r : Nat} (h : rRing b c r K M) : K (b + 16 + r) 4 = 2 ↔ M 19 (2 * c + r) = 2 := by
  obtain ⟨⟨s, hs, e1, e2⟩, -⟩ := h
  rw [e1, e2]
  exact lmp_2 hs
theorem rg_red {r : Nat} (h : rRing b c r K M) : K (b + 16 + r) 4 = 1 ↔ M 19 (2 * c + r) = 3 := by
  obtain ⟨⟨s, hs, e1, e2⟩, -⟩ := h
  rw [e1, e2]
  exact lmp_1 hs
theorem rg_waits {r : Nat} (hr : r < 2) (h : rRing b c r K M) : K (b + 16 + r) 0 = -1 ↔ M 19 (2 * c + r) = 0 := by
  obtain ⟨-, e0, -, -, -, -, h0, h1, -⟩ := h
  rw [e0]
  constructor
  · intro e
    by_cases hz : M 19 (2 * c + r) = 0
    · exact hz
    · obtain ⟨⟨q, hq, e2, -⟩, -⟩ := h1 hz
      rw [e2] at e
      exact absurd e (nI_ne_m1 (by omega))
  · exact h0
theorem grn_of {r q : Nat} (hr : r < 2) (hq : q < 4) : grn M c (4 * r + q) = decide (M 19 (2 * c + r) = 1 ∧ M 20 (2 * c + r) = nI (4 * r + q)) := by
  unfold grn
  rw [show (4 * r + q) / 4 = r by omega]
theorem C_greenPhase {r : Nat} (hr : r < 2) (h : rRing b c r K M) : ∃ m, f_X6_greenPhase (b + 16 + r) K = some m ∧ mk m (fun p => decide (p / 4 = r) && grn M c p) := by
  unfold f_X6_greenPhase
  by_cases hg : M 19 (2 * c + r) = 1
  · rw [if_pos ((rg_green h).mpr hg), h.2.1]
    obtain ⟨⟨q, hq, e2, -⟩, -⟩ := h.2.2.2.2.2.2.2.1 (by rw [hg]; decide)
    rw [e2, C_bit (by omega), ob]
    refine ⟨_, rfl, mk_congr (bit_lt (4 * r + q) (by omega)) (fun i hi => ?_)⟩
    unfold grn
    by_cases hir : i / 4 = r
    · rw [hir, hg, e2]
      by_cases hiq : i = 4 * r + q
      · subst hiq
        simp [hir]
      · have : ¬ nI (4 * r + q) = nI i := fun e => hiq ((eq_nI (by omega) (by omega)).mp e).symm
        simp [this, hiq]
    · have : i ≠ 4 * r + q := by omega
      simp [hir, this]
  · rw [if_neg (fun e => hg ((rg_green h).mp e))]
    refine ⟨_, rfl, mk_congr mk_0 (fun i hi => ?_)⟩
    unfold grn
    by_cases hir : i / 4 = r
    · simp [hir, hg]
    · simp [hir]
theorem C_greens (h0 : rRing b c 0 K M) (h1 : rRing b c 1 K M) : ∃ m, f_X0_greenPhases b K = some m ∧ mk m (fun p => grn M c p) := by
  unfold f_X0_greenPhases
  obtain ⟨m0, e0, k0⟩ := C_greenPhase (by omega) h0
  obtain ⟨m1, e1, k1⟩ := C_greenPhase (by omega) h1
  rw [show b + 16 = b + 16 + 0 from rfl, show b + 17 = b + 16 + 1 from rfl, e0, ob, e1, ob]
  refine ⟨_, rfl, mk_congr (mk_or k0 k1) (fun i hi => ?_)⟩
  rcases (show i / 4 = 0 ∨ i / 4 = 1 by omega) with h | h <;> simp [h]
theorem one_z {x : Int32} (h : z01 x) : decide (x = 1) = !decide (x = 0) := by
  rcases h with rfl | rfl <;> decide
theorem C_counting (hC : rCal b c K M) (h0 : rRing b c 0 K M) (h1 : rRing b c 1 K M) : ∃ m, f_X0_countingCalls b K = some m ∧ mk m (fun p => cal M c p) := by
  unfold f_X0_countingCalls
  obtain ⟨m, e, k⟩ := C_greens h0 h1
  rw [e, ob]
  refine ⟨_, rfl, mk_congr (mk_andn (mk_or hC.1 hC.2.1) k) (fun i hi => ?_)⟩
  obtain ⟨z1, z2, -⟩ := hC.2.2 i hi
  unfold cal one
  rw [one_z z1, one_z z2]
theorem C_ext (hD : rDet b c K M) (hp : p < 8) : f_X1_extendsGreen (b + 5) (nI p) K = some (bi (!decide (M 11 (8 * c + p) = 0) && !decide ((60 : Int32) ≤ M 12 (8 * c + p)))) := by
  unfold f_X1_extendsGreen
  rw [C_bit hp, ob]
  have h := mk_tst (mk_andn hD.1 hD.2.1) hp
  have z := (hD.2.2 p hp).1
  unfold one at h
  rw [one_z z] at h
  generalize (!decide (M 11 (8 * c + p) = 0) && !decide ((60 : Int32) ≤ M 12 (8 * c + p))) = x at h ⊢
  cases x
  · rw [if_pos (h.mpr rfl)]
    rfl
  · rw [if_neg (fun e => by cases h.mp e)]
    rfl
theorem C_calls (hD : rDet b c K M) (hp : p < 8) : f_X1_calls (b + 5) (nI p) K = some (bi (!decide (M 11 (8 * c + p) = 0) || decide ((60 : Int32) ≤ M 12 (8 * c + p)))) := by
  unfold f_X1_calls
  rw [C_bit hp, ob]
  have h := mk_tst (mk_or hD.1 hD.2.1) hp
  have z := (hD.2.2 p hp).1
  unfold one at h
  rw [one_z z] at h
  generalize (!decide (M 11 (8 * c + p) = 0) || decide ((60 : Int32) ≤ M 12 (8 * c + p))) = x at h ⊢
  cases x
  · rw [if_pos (h.mpr rfl)]
    rfl
  · rw [if_neg (fun e => by cases h.mp e)]
    rfl
end LC
