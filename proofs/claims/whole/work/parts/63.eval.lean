/-! A TICK, (e): what the plain act asks, evaluated -/
section Ev
variable {b c r s : Nat} {K M M' : Mem} {w fc : Bool}
def ery (M : Mem) (c : Nat) : Bool := !decide (M 32 c < 0) && !decide (M 31 (ix (M 32 c)) ≤ M 35 c)
theorem C_ery (h : rLnk b c K M) (hP : rPl K M) : f_X3_isBeforeSplit (b + 8) K = some (bi (ery M c)) := by
  obtain ⟨h1, h2, -, -, h5, -, -⟩ := h
  unfold f_X3_isBeforeSplit ery
  rw [h1, h2]
  rcases h5 with e | ⟨j, hj, e, h29, -⟩
  · rw [if_pos e, e]
    rfl
  · have hlt : ¬ nI j < 0 := nI_ge0 (by omega)
    rw [e, if_neg (nI_ne_m1 (by omega)), C_split hj hP h29, ob, ix_nI (by omega)]
    by_cases hl : M 31 j ≤ M 35 c
    · simp [hl, bi]
    · simp [hl, hlt, bi]
theorem M_ery (hc : c < 2) (h5 : M 32 c = -1 ∨ ∃ j, j < 4 ∧ M 32 c = nI j) : f_X9_isEarly (nI c) M = some (bi (ery M c)) := by
  have i2 : inb (nI c) 2 = true := inb_t hc (by omega)
  have x2 : ix (nI c) = c := ix_nI (by omega)
  unfold f_X9_isEarly ery
  rw [if_pos i2, if_pos i2, if_pos i2, x2]
  rcases h5 with e | ⟨j, hj, e⟩
  · rw [e, if_pos (by decide)]
    rfl
  · have hlt : ¬ nI j < 0 := nI_ge0 (by omega)
    rw [e, if_neg hlt, if_pos (inb_t hj (by omega)), ix_nI (by omega)]
    by_cases hl : M 31 j ≤ M 35 c
    · simp [hl, bi]
    · simp [hl, hlt, bi]
def ph (M : Mem) (c r : Nat) : Nat := ix (M 20 (2 * c + r))
def dnw (M : Mem) (c r : Nat) (w fc : Bool) : Bool := (w && (decide (M 19 (2 * c + r) = 1) && (decide (M 25 (2 * c + r) = 0) && !decide (M 22 (2 * c + r) < M 2 (64 * c + 8 * ph M c r))))) && (fc || (decide (M 24 (2 * c + r) = 0) || !decide (M 23 (2 * c + r) < M 2 (64 * c + (8 * ph M c r + 2)))))
theorem rg_w0 (h : rRing b c r K M) : K (b + 16 + r) 8 = 0 ↔ M 25 (2 * c + r) = 0 := by
  obtain ⟨w, hw, e1, e2⟩ := h.2.2.2.2.2.2.2.2.1
  rw [e1, e2, nI_eq0 (by omega), nI_eq0 (by omega)]
  omega
theorem rg_w1 (h : rRing b c r K M) : K (b + 16 + r) 8 = 4 ↔ M 25 (2 * c + r) = 1 := by
  obtain ⟨w, hw, e1, e2⟩ := h.2.2.2.2.2.2.2.2.1
  rw [e1, e2]
  rcases (show w = 0 ∨ w = 1 ∨ w = 2 by omega) with rfl | rfl | rfl <;> decide
theorem C_mayEnd {x : Int32} (h : rRing b c r K M) : f_X6_mayEnd (b + 16 + r) x K = some (bi (decide (M 19 (2 * c + r) = 1) && (decide (M 25 (2 * c + r) = 0) && !decide (M 22 (2 * c + r) < x)))) := by
  unfold f_X6_mayEnd
  rw [h.2.2.1]
  by_cases h1 : M 19 (2 * c + r) = 1
  · rw [if_pos ((rg_green h).mpr h1)]
    by_cases h2 : M 25 (2 * c + r) = 0
    · rw [if_pos ((rg_w0 h).mpr h2)]
      by_cases h3 : M 22 (2 * c + r) < x <;> simp [h1, h2, h3, bi]
    · rw [if_neg (fun e => h2 ((rg_w0 h).mp e))]
      simp [h2, bi]
  · rw [if_neg (fun e => h1 ((rg_green h).mp e))]
    simp [h1, bi]
/-- an entry of a ring's phase: nothing where it waits -/
theorem C_atp0 (hr : r < 2) (hT : rTab b c K M) (h : rRing b c r K M) : f_X7_at (b + 3) (K (b + 16 + r) 0) 0 K = some (if M 19 (2 * c + r) = 0 then 0 else M 2 (64 * c + 8 * ph M c r)) := by
  rcases rg_cases hr h with h0 | ⟨h0, q, hq, e, -⟩
  · rw [if_pos h0, (rg_waits hr h).mpr h0, C_atm 0 (by decide)]
  · rw [if_neg h0, h.2.1, e, C_at0 (by omega), at_M hT (by omega)]
    unfold ph
    rw [e, ix_nI (by omega)]
theorem C_atp2 (hr : r < 2) (hT : rTab b c K M) (h : rRing b c r K M) : f_X7_at (b + 3) (K (b + 16 + r) 0) 2 K = some (if M 19 (2 * c + r) = 0 then 0 else M 2 (64 * c + (8 * ph M c r + 2))) := by
  rcases rg_cases hr h with h0 | ⟨h0, q, hq, e, -⟩
  · rw [if_pos h0, (rg_waits hr h).mpr h0, C_atm 2 (by decide)]
  · rw [if_neg h0, h.2.1, e, C_at2 (by omega), at_M hT (by omega)]
    unfold ph
    rw [e, ix_nI (by omega)]
theorem C_done (hr : r < 2) (hT : rTab b c K M) (h : rRing b c r K M) (h3 : K (b + 16 + r) 3 = bi w) : f_X0_isDone b (b + 16 + r) (bi fc) K = some (bi (dnw M c r w fc)) := by
  unfold f_X0_isDone dnw
  rw [h3, C_atp0 hr hT h, ob, C_mayEnd h, ob, C_atp2 hr hT h, ob, h.2.2.2.1, h.2.2.2.2.1]
  cases w
  · simp [bi]
  · by_cases h0 : M 19 (2 * c + r) = 0
    · simp [h0, bi]
    · rw [if_neg h0, if_neg h0]
      simp only [Bool.true_and]
      cases (decide (M 19 (2 * c + r) = 1) && (decide (M 25 (2 * c + r) = 0) && !decide (M 22 (2 * c + r) < M 2 (64 * c + 8 * ph M c r))))
      · simp [bi]
      · cases fc
        · by_cases h4 : M 24 (2 * c + r) = 0
          · simp [h4, bi]
          · by_cases h5 : M 23 (2 * c + r) < M 2 (64 * c + (8 * ph M c r + 2)) <;> simp [h4, h5, bi]
        · simp [bi]
theorem M_done (hc : c < 2) (hr : r < 2) (hs : s < 2) (hS : M 6 c = nI s) (h : rgM c r M) (h32 : M 32 c = -1 ∨ ∃ j, j < 4 ∧ M 32 c = nI j) : f_X9_plainDone (nI c) (nI (2 * c + r)) M = some (bi (dnw M c r (wt M c r s) (ery M c && decide (s = 1)))) := by
  have i4 : inb (nI (2 * c + r)) 4 = true := inb_t (by omega) (by omega)
  have x4 : ix (nI (2 * c + r)) = 2 * c + r := ix_nI (by omega)
  have i2 : inb (nI c) 2 = true := inb_t hc (by omega)
  have x2 : ix (nI c) = c := ix_nI (by omega)
  have es : nI s = 1 ↔ s = 1 := eq_nI (b := 1) (by omega) (by omega)
  unfold f_X9_plainDone dnw
  simp only [i4, x4, if_true, i2, x2]
  by_cases h1 : M 19 (2 * c + r) = 1
  · have h0 : ¬ M 19 (2 * c + r) = 0 := by rw [h1]; decide
    have hw := M_wt hc hr hs hS h
    rcases h with h | ⟨-, q, hq, e, -⟩
    · exact absurd h h0
    · have hph : ph M c r = 4 * r + q := by unfold ph; rw [e, ix_nI (by omega)]
      rw [if_pos h1, e, M_entry0 hc (by omega), ob, M_entry2 hc (by omega), ob, hw, ob, M_ery hc h32, ob, hph, hS]
      by_cases h2 : M 22 (2 * c + r) < M 2 (64 * c + 8 * (4 * r + q))
      · simp [h2, bi]
      · by_cases h3 : M 25 (2 * c + r) = 0
        · cases wt M c r s
          · simp [bi]
          · by_cases h4 : M 24 (2 * c + r) = 0
            · simp [h1, h2, h3, h4, bi]
            · by_cases h5 : M 2 (64 * c + (8 * (4 * r + q) + 2)) ≤ M 23 (2 * c + r)
              · have h6 : ¬ M 23 (2 * c + r) < M 2 (64 * c + (8 * (4 * r + q) + 2)) := Int32.not_lt.mpr h5
                simp [h1, h2, h3, h4, h5, h6, bi]
              · have h6 : M 23 (2 * c + r) < M 2 (64 * c + (8 * (4 * r + q) + 2)) := Int32.not_le.mp h5
                cases ery M c
                · simp [h1, h2, h3, h4, h5, h6, bi]
                · by_cases h7 : s = 1
                  · have h8 := es.mpr h7
                    simp [h1, h2, h3, h4, h5, h6, h7, bi, nI]
                  · have h8 : ¬ nI s = 1 := fun e => h7 (es.mp e)
                    simp [h1, h2, h3, h4, h5, h6, h7, h8, bi]
        · simp [h2, h3, bi]
  · simp [h1, bi]
def wkB (M : Mem) (c r s : Nat) : Bool := (decide (M 19 (2 * c + r) = 1) && (decide (M 25 (2 * c + r) = 0) && !wt M c r s)) && !decide (M 10 (8 * c + ph M c r) = 0)
def ylB (M : Mem) (c r s : Nat) (fc : Bool) : Bool := dnw M c r (wt M c r s) fc && !decide (fo M c r = -1)
def MWk (c r : Nat) (M : Mem) : Mem := ks (ks (ks M 25 (2 * c + r) 1) 26 (2 * c + r) 0) 10 (8 * c + ph M c r) 0
def MYl (c r : Nat) (x : Int32) (M : Mem) : Mem := ks (ks (ks M 19 (2 * c + r) 2) 22 (2 * c + r) 0) 21 (2 * c + r) x
def KYl (b r : Nat) (x : Int32) (K : Mem) : Mem := ks (ks (ks K (b + 16 + r) 1 x) (b + 16 + r) 4 2) (b + 16 + r) 5 0
def Af (c s r : Nat) (M : Mem) : Mem := if wkB M c r s = true then MWk c r M else M
def Yf (c s : Nat) (fc : Bool) (r : Nat) (M : Mem) : Mem := if ylB M c r s fc = true then MYl c r (fo M c r) M else M
/-- nothing that is weighed has changed -/
def sim (c : Nat) (M M' : Mem) : Prop := (∀ r, r < 2 → (M' 19 (2 * c + r) = 0 ↔ M 19 (2 * c + r) = 0) ∧ M' 20 (2 * c + r) = M 20 (2 * c + r)) ∧ (∀ p, p < 8 → ¬ (¬ M 19 (2 * c + p / 4) = 0 ∧ M 20 (2 * c + p / 4) = nI p) → cal M' c p = cal M c p) ∧ ∀ row k, (row = 6 ∨ row = 8 ∨ row = 2 ∨ row = 31 ∨ row = 32 ∨ row = 35) → M' row k = M row k
theorem sim_rf : sim c M M := ⟨fun _ _ => ⟨Iff.rfl, rfl⟩, fun _ _ _ => rfl, fun _ _ _ => rfl⟩
theorem sim_tr {M'' : Mem} (h : sim c M M') (h2 : sim c M' M'') : sim c M M'' := by
  refine ⟨fun r hr => ⟨((h2.1 r hr).1).trans (h.1 r hr).1, ((h2.1 r hr).2).trans (h.1 r hr).2⟩, fun p hp e => ?_, fun row k hk => (h2.2.2 row k hk).trans (h.2.2 row k hk)⟩
  rw [h2.2.1 p hp (fun e2 => e ⟨fun e3 => e2.1 ((h.1 _ (by omega)).1.mpr e3), by rw [← (h.1 (p / 4) (by omega)).2]; exact e2.2⟩), h.2.1 p hp e]
theorem sim_rg (hr : r < 2) (h : sim c M M') (hg : rgM c r M) : rgM c r M' := by
  obtain ⟨h1, -, h3⟩ := h
  unfold rgM
  rw [(h1 r hr).2, h3 6 c (by omega)]
  rcases hg with e | ⟨e, q, hq, e2, e3, e4⟩
  · exact Or.inl ((h1 r hr).1.mpr e)
  · exact Or.inr ⟨fun e0 => e ((h1 r hr).1.mp e0), q, hq, e2, by rw [h3 8 _ (by omega)]; exact e3, e4⟩
theorem sim_fo (hr : r < 2) (h : sim c M M') (hg : rgM c r M) : fo M' c r = fo M c r := by
  obtain ⟨h1, h2, h3⟩ := h
  unfold fo
  rw [(h1 r hr).2]
  rcases hg with e | ⟨e, q, hq, e2, -⟩
  · rw [if_pos e, if_pos ((h1 r hr).1.mpr e)]
  · rw [if_neg e, if_neg (fun e0 => e ((h1 r hr).1.mp e0)), e2, ix_nI (by omega)]
    unfold fwd
    by_cases ho : (4 * r + q) % 2 = 1
    · rw [if_pos ho, if_pos ho]
    · rw [if_neg ho, if_neg ho, h2 (4 * r + q + 1) (by omega)]
      rintro ⟨-, e5⟩
      rw [show (4 * r + q + 1) / 4 = r by omega, e2] at e5
      have := (eq_nI (by omega) (by omega)).mp e5
      omega
theorem sim_nd (hs : s < 2) (h : sim c M M') (hg0 : rgM c 0 M) (hg1 : rgM c 1 M) (hS : M 6 c = nI s) : ndd M' c s = ndd M c s := by
  obtain ⟨h1, h2, h3⟩ := h
  have key : ∀ p, p < 8 → (¬ M 19 (2 * c + p / 4) = 0 ∧ M 20 (2 * c + p / 4) = nI p) → p % 4 / 2 = s := by
    rintro p hp ⟨e1, e2⟩
    have hg : rgM c (p / 4) M := by
      rcases (show p / 4 = 0 ∨ p / 4 = 1 by omega) with e | e <;> rw [e]
      · exact hg0
      · exact hg1
    rcases hg with e | ⟨-, q, hq, e3, -, e4⟩
    · exact absurd e e1
    · rw [e2] at e3
      have a1 := (eq_nI (by omega) (by omega)).mp e3
      rw [hS] at e4
      have a2 := (eq_nI (by omega) (by omega)).mp e4
      omega
  unfold ndd
  congr 1
  · refine anyf_congr 8 (fun p hp => ?_)
    by_cases hx : ¬ M 19 (2 * c + p / 4) = 0 ∧ M 20 (2 * c + p / 4) = nI p
    · have := key p hp hx
      have hn : ¬ p % 4 / 2 = 1 - s := by omega
      simp [hn]
    · rw [h2 p hp hx]
  · refine anyf_congr 8 (fun p hp => ?_)
    unfold bfr
    rw [(h1 (p / 4) (by omega)).2]
    by_cases hz : M 19 (2 * c + p / 4) = 0
    · have hz' := (h1 (p / 4) (by omega)).1.mpr hz
      simp [hz, hz']
    · have hz' : ¬ M' 19 (2 * c + p / 4) = 0 := fun e => hz ((h1 (p / 4) (by omega)).1.mp e)
      by_cases hx : M 20 (2 * c + p / 4) = nI p
      · have : nI p ≤ nI p := (le_nI (by omega) (by omega)).mpr (by omega)
        simp [hx, this]
      · rw [h2 p hp (fun e => hx e.2)]
        simp [hz, hz']
theorem sim_wt (hr : r < 2) (hs : s < 2) (h : sim c M M') (hg0 : rgM c 0 M) (hg1 : rgM c 1 M) (hS : M 6 c = nI s) : wt M' c r s = wt M c r s := by
  have hg : rgM c r M := by
    rcases (show r = 0 ∨ r = 1 by omega) with rfl | rfl
    · exact hg0
    · exact hg1
  unfold wt
  rw [sim_fo hr h hg, sim_nd hs h hg0 hg1 hS]
theorem sim_ery (h : sim c M M') : ery M' c = ery M c := by
  unfold ery
  rw [h.2.2 32 c (by omega), h.2.2 35 c (by omega), h.2.2 31 _ (by omega)]
theorem ph_of {q : Nat} (hr : r < 2) (hq : q < 4) (e : M 20 (2 * c + r) = nI (4 * r + q)) : ph M c r = 4 * r + q := by
  unfold ph
  rw [e, ix_nI (by omega)]
theorem sim_W (hr : r < 2) (hg : rgM c r M) (h1 : M 19 (2 * c + r) = 1) : sim c M (MWk c r M) ∧ uM c r M (MWk c r M) := by
  rcases hg with e | ⟨h0, q, hq, e, -, -⟩
  · rw [h1] at e
    exact absurd e (by decide)
  · have hph := ph_of hr hq e
    unfold MWk
    rw [hph]
    refine ⟨⟨fun r2 h2 => ⟨by rw [ks_n (by omega), ks_n (by omega), ks_n (by omega)], by rw [ks_n (by omega), ks_n (by omega), ks_n (by omega)]⟩, fun p hp hx => ?_, fun row k hk => by rw [ks_n (by omega), ks_n (by omega), ks_n (by omega)]⟩, fun row k a1 a2 => by rw [ks_n (by omega), ks_n (by omega), ks_n (by omega)]⟩
    have hne : p ≠ 4 * r + q := by
      rintro rfl
      rw [show (4 * r + q) / 4 = r by omega] at hx
      exact hx ⟨h0, e⟩
    unfold cal grn
    rw [ks_n (a := 9) (by omega), ks_n (a := 9) (by omega), ks_n (a := 9) (by omega), ks_n (a := 10) (by omega), ks_n (a := 10) (by omega), ks_n (a := 10) (by omega), ks_n (a := 19) (by omega), ks_n (a := 19) (by omega), ks_n (a := 19) (by omega), ks_n (a := 20) (by omega), ks_n (a := 20) (by omega), ks_n (a := 20) (by omega)]
theorem sim_Y {x : Int32} (hr : r < 2) (hg : rgM c r M) (h1 : M 19 (2 * c + r) = 1) : sim c M (MYl c r x M) ∧ uM c r M (MYl c r x M) := by
  have h0 : ¬ M 19 (2 * c + r) = 0 := by rw [h1]; decide
  have e19 : ∀ k, MYl c r x M 19 k = if k = 2 * c + r then 2 else M 19 k := fun k => by
    unfold MYl
    rw [ks_n (a := 19) (by omega), ks_n (a := 19) (by omega)]
    by_cases hk : k = 2 * c + r
    · rw [hk, ks_s, if_pos rfl]
    · rw [ks_k hk, if_neg hk]
  have eo : ∀ row k, row ≠ 19 → row ≠ 21 → row ≠ 22 → MYl c r x M row k = M row k := fun row k a d e => by
    unfold MYl
    rw [ks_i d, ks_i e, ks_i a]
  refine ⟨⟨fun r2 h2 => ⟨?_, eo 20 _ (by omega) (by omega) (by omega)⟩, fun p hp hx => ?_, fun row k hk => eo row k (by omega) (by omega) (by omega)⟩, fun row k a1 a2 => ?_⟩
  · rw [e19]
    by_cases hk : 2 * c + r2 = 2 * c + r
    · rw [if_pos hk, hk]
      exact ⟨fun e => absurd e (by decide), fun e => absurd e h0⟩
    · rw [if_neg hk]
  · unfold cal grn
    rw [eo 9 _ (by omega) (by omega) (by omega), eo 10 _ (by omega) (by omega) (by omega), eo 20 _ (by omega) (by omega) (by omega), e19]
    by_cases hk : 2 * c + p / 4 = 2 * c + r
    · rw [if_pos hk, hk]
      rw [hk] at hx
      have : ¬ M 20 (2 * c + r) = nI p := fun e => hx ⟨h0, e⟩
      simp [this]
    · rw [if_neg hk]
  · unfold MYl
    rw [ks_n (by omega), ks_n (by omega), ks_n (by omega)]
end Ev
