/-! A TICK, (e): after an input of greater right -/
section Hd
variable {b c r s : Nat} {K M : Mem}
theorem ks_self {M : Mem} {i k : Nat} {v : Int32} (h : M i k = v) : ks M i k v = M := by
  funext x y
  simp only [ks]
  by_cases hx : x = i
  · by_cases hy : y = k
    · rw [if_pos hx, if_pos hy, hx, hy, h]
    · rw [if_pos hx, if_neg hy]
  · rw [if_neg hx]
/-- besides, the crossing is off or flashes as it did -/
def oY (c : Nat) (M M' : Mem) : Prop := oM c M M' ∧ ∀ k, M' 4 k = M 4 k ∧ M' 5 k = M 5 k
theorem oY_rf : oY c M M := ⟨oM_rf, fun _ => ⟨rfl, rfl⟩⟩
theorem oY_tr {M' M'' : Mem} (h : oY c M M') (h2 : oY c M' M'') : oY c M M'' := ⟨oM_tr h.1 h2.1, fun k => ⟨((h2.2 k).1).trans (h.2 k).1, ((h2.2 k).2).trans (h.2 k).2⟩⟩
theorem uM_y {M' : Mem} (hr : r < 2) (h : uM c r M M') : oY c M M' := ⟨uM_o hr h, fun k => ⟨h 4 k (by omega) (by omega), h 5 k (by omega) (by omega)⟩⟩
theorem oY_ks {row k : Nat} {v : Int32} (h : slc c row k) (hw : row ≠ 4 ∧ row ≠ 5) : oY c M (ks M row k v) := ⟨oM_ks h, fun k2 => ⟨ks_i (by omega), ks_i (by omega)⟩⟩
def cHad (b : Nat) (K : Mem) : Option Mem := if (K b 15) = 0 then (some K) else ((f_X0_greenPhases b (ks K b 15 0)).bind fun u13 => some (ks (ks K b 15 0) b 13 ((K b 13) ||| ((K b 10) &&& (u13 ^^^ (-1))))))
theorem had_RC {g : Int32} {M' : Mem} (h : RC b c K M) (hg : mk g (fun p => grn M c p)) (hM : ∀ row k, row ≠ 9 → M' row k = M row k) (h9 : ∀ p, p < 8 → M' 9 (8 * c + p) = bi (one M 9 (8 * c + p) || (one M 8 (8 * c + p) && !grn M c p))) : RQ b c (ks (ks K b 15 0) b 13 ((K b 13) ||| ((K b 10) &&& (g ^^^ (-1))))) (ks M' 7 c 0) := by
  have kb : ∀ k, k ≠ 13 → k ≠ 15 → (ks (ks K b 15 0) b 13 ((K b 13) ||| ((K b 10) &&& (g ^^^ (-1))))) b k = K b k := fun k h1 h2 => by rw [ks_k h1, ks_k h2]
  have k0 : ∀ i, 1 ≤ i → sK b i K (ks (ks K b 15 0) b 13 ((K b 13) ||| ((K b 10) &&& (g ^^^ (-1))))) := fun i hi k => by rw [ks_i (by omega), ks_i (by omega)]
  have k13 : (ks (ks K b 15 0) b 13 ((K b 13) ||| ((K b 10) &&& (g ^^^ (-1))))) b 13 = (K b 13) ||| ((K b 10) &&& (g ^^^ (-1))) := ks_s _ _ _ _
  have k15 : (ks (ks K b 15 0) b 13 ((K b 13) ||| ((K b 10) &&& (g ^^^ (-1))))) b 15 = 0 := by rw [ks_k (by omega), ks_s]
  have m : ∀ row, row ≠ 9 → row ≠ 7 → ∀ k, (ks M' 7 c 0) row k = M row k := fun row h1 h2 k => by rw [ks_i h2]; exact hM row k h1
  have m7 : (ks M' 7 c 0) 7 c = 0 := ks_s _ _ _ _
  have m9 : ∀ p, p < 8 → (ks M' 7 c 0) 9 (8 * c + p) = bi (one M 9 (8 * c + p) || (one M 8 (8 * c + p) && !grn M c p)) := fun p hp => by rw [ks_i (by omega)]; exact h9 p hp
  generalize ks (ks K b 15 0) b 13 ((K b 13) ||| ((K b 10) &&& (g ^^^ (-1)))) = K2 at *
  generalize ks M' 7 c 0 = M2 at *
  obtain ⟨h1, h2, h3, h4, h5, h6, h7, h8, h9', h10, h11⟩ := h
  have hH : K2 b 15 = M2 7 c := by rw [k15, m7]
  refine ⟨⟨rTab_f (k0 2 (by omega)) (k0 4 (by omega)) (fun i _ => m 1 (by omega) (by omega) _) (fun i _ => m 2 (by omega) (by omega) _) h1,
    rUse_f (kb 10 (by omega) (by omega)) (fun i _ => m 8 (by omega) (by omega) _) (fun i _ => m 2 (by omega) (by omega) _) h2, ⟨?_, ?_, fun p hp => ?_⟩,
    rDet_f (k0 5 (by omega)) (k0 6 (by omega)) (k0 7 (by omega)) (fun i _ => m 11 (by omega) (by omega) _) (fun i _ => m 12 (by omega) (by omega) _) (fun i _ => m 13 (by omega) (by omega) _) h4,
    rLnk_f (k0 8 (by omega)) (fun j _ e => by rw [m 29 (by omega) (by omega)]; exact e) (m 32 (by omega) (by omega) _) (m 33 (by omega) (by omega) _) (m 34 (by omega) (by omega) _) (m 35 (by omega) (by omega) _) h5,
    rInp_f (k0 10 (by omega)) (k0 11 (by omega)) (fun i _ => m 27 (by omega) (by omega) _) (fun i _ => m 28 (by omega) (by omega) _) h6, ?_,
    Or.inl hH,
    rRing_f (by omega) (fun j => k0 16 (by omega) j) (fun i _ => m 8 (by omega) (by omega) _) (m 6 (by omega) (by omega) _) (fun row h1 h2 => m row (by omega) (by omega) _) h9',
    rRing_f (by omega) (fun j => k0 17 (by omega) j) (fun i _ => m 8 (by omega) (by omega) _) (m 6 (by omega) (by omega) _) (fun row h1 h2 => m row (by omega) (by omega) _) h10,
    rMon_f (k0 12 (by omega) 3) (k0 14 (by omega)) (k0 15 (by omega)) (k0 18 (by omega)) (m 5 (by omega) (by omega) _) (fun i _ => m 8 (by omega) (by omega) _) (fun i _ => m 14 (by omega) (by omega) _) (fun i _ => m 16 (by omega) (by omega) _) (fun i _ => m 17 (by omega) (by omega) _) (fun i _ => m 18 (by omega) (by omega) _) h11⟩, hH⟩
  · rw [k13]
    refine mk_congr (mk_or h3.1 (mk_andn h2.1 hg)) (fun i hi => ?_)
    unfold one at m9 ⊢
    rw [m9 i hi]
    cases (decide (M 9 (8 * c + i) = 1) || decide (M 8 (8 * c + i) = 1) && !grn M c i) <;> rfl
  · rw [kb 14 (by omega) (by omega)]
    exact mk_congr h3.2.1 (fun i hi => (one_f (m 10 (by omega) (by omega) _)).symm)
  · obtain ⟨a1, a2, a3, a4⟩ := h3.2.2 p hp
    rw [m9 p hp, m 10 (by omega) (by omega), m 8 (by omega) (by omega)]
    refine ⟨z01_bi _, a2, fun e => ?_, a4⟩
    rw [bi_1] at e
    unfold one at e
    rcases Bool.or_eq_true _ _ |>.mp e with e | e
    · exact a3 (of_decide_eq_true e)
    · exact of_decide_eq_true (Bool.and_eq_true _ _ |>.mp e).1
  · unfold rSc
    obtain ⟨a1, a2, a3, a4, a5, a6, a7, a8⟩ := h7
    rw [kb 9 (by omega) (by omega), kb 10 (by omega) (by omega), kb 11 (by omega) (by omega), kb 12 (by omega) (by omega), k15, m 3 (by omega) (by omega), m 4 (by omega) (by omega), m 5 (by omega) (by omega), m 6 (by omega) (by omega), m7]
    exact ⟨a1, a2, a3, a4, a5, Or.inl rfl, Or.inl rfl, a8⟩
theorem M_hadL (hc : c < 2) (h7 : ¬ M 7 c = 0) (hz : ∀ p, p < 8 → z01 (M 8 (8 * c + p)) ∧ z01 (M 9 (8 * c + p))) : ∃ y M', f_X9_step_L68 (nI c) (-1) 70 0 M = some (y, M') ∧ (∀ row k, row ≠ 9 → M' row k = M row k) ∧ (∀ k, (k < 8 * c ∨ 8 * c + 8 ≤ k) → M' 9 k = M 9 k) ∧ ∀ p, p < 8 → M' 9 (8 * c + p) = bi (one M 9 (8 * c + p) || (one M 8 (8 * c + p) && !grn M c p)) := by
  have key := loop1 (fun n i M => f_X9_step_L68 (nI c) (-1) n i M) 0 8 (fun i M' => (∀ row k, row ≠ 9 → M' row k = M row k) ∧ (∀ k, (k < 8 * c ∨ 8 * c + i ≤ k) → M' 9 k = M 9 k) ∧ ∀ p, p < i → M' 9 (8 * c + p) = bi (one M 9 (8 * c + p) || (one M 8 (8 * c + p) && !grn M c p)))
    (fun o => ∃ y M', o = some (y, M') ∧ (∀ row k, row ≠ 9 → M' row k = M row k) ∧ (∀ k, (k < 8 * c ∨ 8 * c + 8 ≤ k) → M' 9 k = M 9 k) ∧ ∀ p, p < 8 → M' 9 (8 * c + p) = bi (one M 9 (8 * c + p) || (one M 8 (8 * c + p) && !grn M c p)))
    (fun n M' hP => ⟨_, M', by show f_X9_step_L68 (nI c) (-1) (n + 1) (nI 8) M' = _; rw [f_X9_step_L68, if_pos c8_yes], hP⟩)
    (fun n i M' hi hP => by
      obtain ⟨p1, p2, p3⟩ := hP
      have h7' : ¬ M' 7 c = 0 := by rw [p1 7 c (by omega)]; exact h7
      have i16 : inb (nI (8 * c + i)) 16 = true := inb_t (by omega) (by omega)
      have x16 : ix (nI (8 * c + i)) = 8 * c + i := ix_nI (by omega)
      have i2 : inb (nI c) 2 = true := inb_t hc (by omega)
      have x2 : ix (nI c) = c := ix_nI (by omega)
      have gg : grn M' c i = grn M c i := by unfold grn; rw [p1 19 _ (by omega), p1 20 _ (by omega)]
      have e8 : M' 8 (8 * c + i) = M 8 (8 * c + i) := p1 8 _ (by omega)
      have e9 : M' 9 (8 * c + i) = M 9 (8 * c + i) := p2 _ (by omega)
      obtain ⟨z8, z9⟩ := hz i hi
      have eL : f_X9_step_L68 (nI c) (-1) (n + 1) (nI i) M' = f_X9_step_L68 (nI c) (-1) n (nI (i + 1)) (if M 8 (8 * c + i) = 0 then M' else if grn M c i = true then M' else ks M' 9 (8 * c + i) 1) := by
        rw [f_X9_step_L68, if_neg (c8_no hi)]
        simp only [i2, x2, if_true, h7', if_false, show ¬ (0 : Int32) ≤ -1 by decide, n_8, n_ak, i16, x16, e8, M_isGreen hc hi, gg, ob, lt, st, n_a1, nar_1]
        by_cases u0 : M 8 (8 * c + i) = 0
        · simp [u0]
        · cases hgr : grn M c i <;> simp [u0, bi]
      refine ⟨(if M 8 (8 * c + i) = 0 then M' else if grn M c i = true then M' else ks M' 9 (8 * c + i) 1), ?_⟩
      · show f_X9_step_L68 (nI c) (-1) (n + 1) (nI (0 + i)) M' = f_X9_step_L68 (nI c) (-1) n (nI (0 + i + 1)) _ ∧ _
        rw [Nat.zero_add]
        refine ⟨eL, ?_⟩
        by_cases u0 : M 8 (8 * c + i) = 0
        · rw [if_pos u0]
          refine ⟨p1, fun k hk => p2 k (by omega), fun p hp => ?_⟩
          rcases Nat.lt_or_ge p i with hlt | hge
          · exact p3 p hlt
          · have : p = i := by omega
            subst this
            rw [e9]
            unfold one
            rw [u0]
            rcases z9 with z | z <;> rw [z] <;> rfl
        · have u1 := z01_one z8 u0
          rw [if_neg u0]
          cases hgr : grn M c i
          · rw [if_neg (by decide)]
            refine ⟨fun row k hrow => by rw [ks_i hrow]; exact p1 row k hrow, fun k hk => by rw [ks_k (by omega)]; exact p2 k (by omega), fun p hp => ?_⟩
            rcases Nat.lt_or_ge p i with hlt | hge
            · rw [ks_k (by omega)]
              exact p3 p hlt
            · have : p = i := by omega
              subst this
              rw [ks_s, hgr]
              unfold one
              rw [u1]
              simp [bi]
          · rw [if_pos rfl]
            refine ⟨p1, fun k hk => p2 k (by omega), fun p hp => ?_⟩
            rcases Nat.lt_or_ge p i with hlt | hge
            · exact p3 p hlt
            · have : p = i := by omega
              subst this
              rw [e9, hgr]
              unfold one
              rw [u1]
              rcases z9 with z | z <;> rw [z] <;> rfl)
    8 0 70 M rfl (by omega) ⟨fun _ _ _ => rfl, fun _ _ => rfl, fun p hp => absurd hp (by omega)⟩
  exact key
theorem s_had (hc : c < 2) (h : RC b c K M) : ∃ K' y M', cHad b K = some K' ∧ f_X9_step_L68 (nI c) (-1) 70 0 M = some (y, M') ∧ RQ b c K' (ks M' 7 c 0) ∧ oK b K K' ∧ oM c M M' ∧ ∀ row k, row ≠ 9 → M' row k = M row k := by
  have i2 : inb (nI c) 2 = true := inb_t hc (by omega)
  have x2 : ix (nI c) = c := ix_nI (by omega)
  obtain ⟨g, eg, hg⟩ := C_greens h.2.2.2.2.2.2.2.2.1 h.2.2.2.2.2.2.2.2.2.1
  have eg' : f_X0_greenPhases b (ks K b 15 0) = some g := by
    rw [← eg]
    simp only [f_X0_greenPhases, f_X6_greenPhase, ks_i (show b + 16 ≠ b by omega), ks_i (show b + 17 ≠ b by omega), C_bit, f_X8_bit]
  have e0 : M 7 c = 0 → f_X9_step_L68 (nI c) (-1) 70 0 M = some (0, M) := fun e => by
    show f_X9_step_L68 (nI c) (-1) (69 + 1) (nI 0) M = _
    rw [f_X9_step_L68, if_neg (c8_no (by omega)), if_pos i2, x2, if_pos e]
    rfl
  have o9 : ∀ M' : Mem, (∀ row k, row ≠ 9 → M' row k = M row k) → (∀ k, (k < 8 * c ∨ 8 * c + 8 ≤ k) → M' 9 k = M 9 k) → oM c M M' := fun M' a d row k hn => by
    by_cases h9 : row = 9
    · subst h9
      exact d k (by unfold slc at hn; omega)
    · exact a row k h9
  have oKh : ∀ v, oK b K (ks (ks K b 15 0) b 13 v) := fun v i k hi => by rw [ks_i (by omega), ks_i (by omega)]
  by_cases hk : K b 15 = 0
  · have h7 : M 7 c = 0 := by
      rcases h.2.2.2.2.2.2.2.1 with e | e
      · rw [← e]; exact hk
      · exact e.1
    refine ⟨K, 0, M, by unfold cHad; rw [if_pos hk], e0 h7, ?_, oK_rf, oM_rf, fun _ _ _ => rfl⟩
    rw [ks_self h7]
    exact ⟨h, by rw [hk, h7]⟩
  · have ec : cHad b K = some (ks (ks K b 15 0) b 13 ((K b 13) ||| ((K b 10) &&& (g ^^^ (-1))))) := by
      unfold cHad
      rw [if_neg hk, eg', ob]
    by_cases h7 : M 7 c = 0
    · refine ⟨_, 0, M, ec, e0 h7, had_RC h hg (fun _ _ _ => rfl) (fun p hp => ?_), oKh _, oM_rf, fun _ _ _ => rfl⟩
      rcases h.2.2.2.2.2.2.2.1 with e | ⟨-, e2, -⟩
      · rw [h7] at e
        exact absurd e hk
      · obtain ⟨z9, -, hu, -⟩ := h.2.2.1.2.2 p hp
        unfold one
        rcases z9 with z | z
        · have : ¬ M 8 (8 * c + p) = 1 := fun e => by rw [e2 p hp e] at z; exact absurd z (by decide)
          rw [z]
          simp [bi, this]
        · rw [z]
          simp [bi]
    · obtain ⟨y, M', a1, a2, a3, a4⟩ := M_hadL hc h7 (fun p hp => ⟨(h.2.1.2 p hp).1, (h.2.2.1.2.2 p hp).1⟩)
      exact ⟨_, y, M', ec, a1, had_RC h hg a2 a4, oKh _, o9 M' a2 a3, a2⟩
end Hd
