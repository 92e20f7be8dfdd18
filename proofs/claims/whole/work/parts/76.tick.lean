/-! THE BEGINNING; a call of tick, of both; an occupancy as a double -/
theorem n01 : ¬ ((0 : Int32) = 1) := by decide
theorem n60 : decide ((60 : Int32) ≤ 0) = false := by decide
theorem nb6 : (0 : Int32) = bi (decide (¬ (0 : Int32) &&& 6 = 0)) := by decide
theorem nb16 : (0 : Int32) = bi (decide ((0 : Int32) = 1 ∧ (0 : Int32) = 1 ∧ (0 : Int32) = 0)) := by decide
theorem mk00 {f : Nat → Bool} (h : ∀ i, i < 8 → f i = false) : mk 0 f := mk_congr mk_0 (fun i hi => (h i hi).symm)
theorem fp_0 : fpos (0 : Int32).toUInt32 := Or.inl ⟨0, FP.Core.b32.qmin, by decide +kernel⟩
theorem RC_a : RC 5 0 K0 M0 := by
  refine ⟨fun i hi => ⟨rfl, rfl, ⟨0, by omega, rfl⟩, ⟨0, by omega, rfl⟩⟩, ⟨mk00 (fun i hi => rfl), fun p hp => ⟨Or.inl rfl, fun e => absurd e n01, fun e => absurd rfl e⟩⟩, ⟨mk00 (fun i hi => rfl), mk00 (fun i hi => rfl), fun p hp => ⟨Or.inl rfl, Or.inl rfl, fun e => absurd e n01, fun e => absurd e n01⟩⟩, ⟨mk00 (fun i hi => rfl), mk00 (fun i hi => n60), fun p hp => ⟨Or.inl rfl, rfl, ⟨0, by omega, rfl⟩, rfl, fp_0⟩⟩, ⟨rfl, rfl, rfl, rfl, Or.inl rfl, ⟨0, by omega, rfl⟩, Or.inl rfl⟩, fun i hi => ⟨rfl, Or.inl rfl, by rcases (show i = 0 ∨ i = 1 by omega) with rfl | rfl <;> rfl, Or.inl (by rcases (show i = 0 ∨ i = 1 by omega) with rfl | rfl <;> rfl)⟩, ⟨rfl, rfl, rfl, Or.inl rfl, rfl, Or.inl rfl, Or.inl rfl, ⟨0, by omega, rfl⟩, fun e => absurd rfl e⟩, Or.inl rfl, ⟨⟨0, by omega, rfl, rfl⟩, rfl, rfl, rfl, rfl, ⟨0, by omega, rfl⟩, fun _ => rfl, fun e => absurd rfl e, ⟨0, by omega, rfl, rfl⟩, fun e => absurd rfl e⟩, ⟨⟨0, by omega, rfl, rfl⟩, rfl, rfl, rfl, rfl, ⟨0, by omega, rfl⟩, fun _ => rfl, fun e => absurd rfl e, ⟨0, by omega, rfl, rfl⟩, fun e => absurd rfl e⟩, ⟨Or.inl rfl, fun p hp => ⟨rfl, ⟨Or.inl rfl, fun _ => rfl⟩, nb6, fun _ => nb16, rfl, ⟨0, by omega, rfl⟩⟩⟩⟩
theorem RC_b : RC 24 1 K0 M0 := by
  refine ⟨fun i hi => ⟨rfl, rfl, ⟨0, by omega, rfl⟩, ⟨0, by omega, rfl⟩⟩, ⟨mk00 (fun i hi => rfl), fun p hp => ⟨Or.inl rfl, fun e => absurd e n01, fun e => absurd rfl e⟩⟩, ⟨mk00 (fun i hi => rfl), mk00 (fun i hi => rfl), fun p hp => ⟨Or.inl rfl, Or.inl rfl, fun e => absurd e n01, fun e => absurd e n01⟩⟩, ⟨mk00 (fun i hi => rfl), mk00 (fun i hi => n60), fun p hp => ⟨Or.inl rfl, rfl, ⟨0, by omega, rfl⟩, rfl, fp_0⟩⟩, ⟨rfl, rfl, rfl, rfl, Or.inl rfl, ⟨0, by omega, rfl⟩, Or.inl rfl⟩, fun i hi => ⟨rfl, Or.inl rfl, by rcases (show i = 0 ∨ i = 1 by omega) with rfl | rfl <;> rfl, Or.inl (by rcases (show i = 0 ∨ i = 1 by omega) with rfl | rfl <;> rfl)⟩, ⟨rfl, rfl, rfl, Or.inl rfl, rfl, Or.inl rfl, Or.inl rfl, ⟨0, by omega, rfl⟩, fun e => absurd rfl e⟩, Or.inl rfl, ⟨⟨0, by omega, rfl, rfl⟩, rfl, rfl, rfl, rfl, ⟨0, by omega, rfl⟩, fun _ => rfl, fun e => absurd rfl e, ⟨0, by omega, rfl, rfl⟩, fun e => absurd rfl e⟩, ⟨⟨0, by omega, rfl, rfl⟩, rfl, rfl, rfl, rfl, ⟨0, by omega, rfl⟩, fun _ => rfl, fun e => absurd rfl e, ⟨0, by omega, rfl, rfl⟩, fun e => absurd rfl e⟩, ⟨Or.inl rfl, fun p hp => ⟨rfl, ⟨Or.inl rfl, fun _ => rfl⟩, nb6, fun _ => nb16, rfl, ⟨0, by omega, rfl⟩⟩⟩⟩
theorem RR_0 : RR 0 K0 M0 := ⟨⟨rfl, ⟨0, Nat.le_refl _, rfl⟩, fun j hj => ⟨rfl, rfl, rfl, Or.inl rfl⟩⟩, RC_a, RC_b⟩
def itC : Nat → Mem → Option Mem
  | 0, K => some K
  | n + 1, K => (tkC K).bind (itC n)
def itM : Nat → Mem → Option Mem
  | 0, M => some M
  | n + 1, M => (tkM M).bind (itM n)
theorem s_it : ∀ (n T : Nat) (K M : Mem), T + n < 1000000 → RR T K M → ∃ K' M', itC n K = some K' ∧ itM n M = some M' ∧ RR (T + n) K' M' ∧ M' 0 0 = M 0 0 := by
  intro n
  induction n with
  | zero =>
    intro T K M _ h
    exact ⟨K, M, rfl, rfl, h, rfl⟩
  | succ n ih =>
    intro T K M hT h
    obtain ⟨K1, M1, a1, a2, a3, a4⟩ := s_tick1 (T := T) (by omega) h
    obtain ⟨K2, M2, d1, d2, d3, d4⟩ := ih (T + 1) K1 M1 (by omega) a3
    refine ⟨K2, M2, ?_, ?_, ?_, d4.trans a4⟩
    · rw [itC, a1, ob, d1]
    · rw [itM, a2, ob, d2]
    · rw [show T + (n + 1) = T + 1 + n by omega]
      exact d3
theorem M_tkL {N : Nat} (hN : N ≤ 20) : ∀ (d j n : Nat) (M M' : Mem), j + d = N → d < n → itM d M = some M' → f_X9_tick_L30 (nI N) n (nI j) M = some (nI N, M') := by
  intro d
  induction d with
  | zero =>
    intro j n M M' hj hn h
    obtain ⟨k, rfl⟩ : ∃ k, n = k + 1 := ⟨n - 1, by omega⟩
    obtain rfl : j = N := by omega
    cases h
    rw [f_X9_tick_L30, if_pos (Int32.le_refl _)]
  | succ d ih =>
    intro j n M M' hj hn h
    obtain ⟨k, rfl⟩ : ∃ k, n = k + 1 := ⟨n - 1, by omega⟩
    rw [itM] at h
    obtain ⟨M1, h1, h2⟩ := bd h
    unfold tkM at h1
    obtain ⟨u6, a1, h1⟩ := bd h1
    obtain ⟨u8, a2, h1⟩ := bd h1
    cases h1
    have hlt : ¬ nI N ≤ nI j := fun e => absurd ((le_nI (by omega) (by omega)).mp e) (by omega)
    rw [f_X9_tick_L30, if_neg hlt, a1, ob, a2, ob]
    simp only [st, lt, n_a1]
    exact ih (j + 1) k _ _ (by omega) (by omega) h2
/-- tick's answer, of the reference -/
theorem M_tick {N : Nat} {M M' : Mem} (hN : N ≤ 20) (h : itM N (ks M 0 0 0) = some M') : f_X9_tick (nI N) M = some (M' 0 1, M') := by
  have h1 : ¬ nI N < 0 := nI_ge0 (by omega)
  have h2 : nI N ≤ 20 := (le_nI (b := 20) (by omega) (by omega)).mpr (by omega)
  have h3 := M_tkL hN N 0 70 _ _ (by omega) (by omega) h
  have h3' : f_X9_tick_L30 (nI N) 70 0 (ks M 0 0 0) = some (nI N, M') := h3
  rw [f_X9_tick, if_neg h1, if_pos h2, ob]
  simp only [st, ks_s, if_true, lt]
  rw [h3', ob]
theorem M_tickBad {x : Int32} {M : Mem} (h : x < 0 ∨ ¬ x ≤ 20) : f_X9_tick x M = some (0, ks M 0 0 1) := by
  have e : (if x < 0 then (some 1) else (if x ≤ 20 then (some 0) else (some 1)) : Option Int32) = some 1 := by
    by_cases h1 : x < 0
    · rw [if_pos h1]
    · rw [if_neg h1, if_neg (h.resolve_left h1)]
  rw [f_X9_tick, e, ob]
  simp only [st, ks_s]
  rw [if_neg n10]
theorem s_tick {T : Nat} {K M : Mem} (h : RR T K M) (hT : T + 20 < 1000000) (x : Int32) : ((x < 0 ∨ ¬ x ≤ 20) ∧ f_X9_tick x M = some (0, ks M 0 0 1) ∧ RR T K (ks M 0 0 1)) ∨ (∃ N K' M', N ≤ 20 ∧ x = nI N ∧ itC N K = some K' ∧ f_X9_tick x M = some (K' 0 3, M') ∧ M' 0 0 = 0 ∧ RR (T + N) K' M') := by
  have bad : (x < 0 ∨ ¬ x ≤ 20) → ((x < 0 ∨ ¬ x ≤ 20) ∧ f_X9_tick x M = some (0, ks M 0 0 1) ∧ RR T K (ks M 0 0 1)) := fun e => ⟨e, M_tickBad e, RR_code 1 h⟩
  rcases i_cases x 21 (by omega) with e | ⟨-, e⟩ | ⟨N, hN, rfl⟩
  · exact Or.inl (bad (Or.inl e))
  · refine Or.inl (bad (Or.inr (fun e2 => ?_)))
    have e3 : nI 21 ≤ nI 20 := Int32.le_trans e e2
    exact absurd e3 (by decide)
  · obtain ⟨K', M', a1, a2, a3, a4⟩ := s_it N T K (ks M 0 0 0) (by omega) (RR_code 0 h)
    refine Or.inr ⟨N, K', M', by omega, rfl, a1, ?_, by rw [a4, ks_s], a3⟩
    rw [M_tick (by omega) a2, a3.1.1]
