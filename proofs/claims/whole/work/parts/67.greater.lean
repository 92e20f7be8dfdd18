/-! A TICK, (f): inputs of greater right -/
section Gt
variable {b c r s t : Nat} {K M M' : Mem} {hr' : Bool}
theorem q_had1 (h : RC b c K M) : RQ b c (ks K b 15 1) (ks M 7 c 1) := by
  have kb : ∀ k, k ≠ 15 → (ks K b 15 1) b k = K b k := fun k h1 => by rw [ks_k h1]
  have k0 : ∀ i, 1 ≤ i → sK b i K (ks K b 15 1) := fun i hi k => by rw [ks_i (by omega)]
  have m : ∀ row, row ≠ 7 → ∀ k, (ks M 7 c 1) row k = M row k := fun row h1 k => ks_i h1
  have m7 : (ks M 7 c 1) 7 c = 1 := ks_s _ _ _ _
  have k15 : (ks K b 15 1) b 15 = 1 := ks_s _ _ _ _
  generalize ks K b 15 1 = K2 at *
  generalize ks M 7 c 1 = M2 at *
  obtain ⟨a1, a2, a3, a4, a5, a6, a7, a8, a9, a10, a11⟩ := h
  have hH' : K2 b 15 = M2 7 c := by rw [k15, m7]
  refine ⟨⟨rTab_f (k0 2 (by omega)) (k0 4 (by omega)) (fun i _ => m 1 (by omega) _) (fun i _ => m 2 (by omega) _) a1,
    rUse_f (kb 10 (by omega)) (fun i _ => m 8 (by omega) _) (fun i _ => m 2 (by omega) _) a2,
    rCal_f (kb 13 (by omega)) (kb 14 (by omega)) (fun i _ => m 8 (by omega) _) (fun i _ => m 9 (by omega) _) (fun i _ => m 10 (by omega) _) a3,
    rDet_f (k0 5 (by omega)) (k0 6 (by omega)) (k0 7 (by omega)) (fun i _ => m 11 (by omega) _) (fun i _ => m 12 (by omega) _) (fun i _ => m 13 (by omega) _) a4,
    rLnk_f (k0 8 (by omega)) (fun j _ e => by rw [m 29 (by omega)]; exact e) (m 32 (by omega) _) (m 33 (by omega) _) (m 34 (by omega) _) (m 35 (by omega) _) a5,
    rInp_f (k0 10 (by omega)) (k0 11 (by omega)) (fun i _ => m 27 (by omega) _) (fun i _ => m 28 (by omega) _) a6, ?_, Or.inl hH',
    rRing_f (by omega) (fun j => k0 16 (by omega) j) (fun i _ => m 8 (by omega) _) (m 6 (by omega) _) (fun row h1 h2 => m row (by omega) _) a9,
    rRing_f (by omega) (fun j => k0 17 (by omega) j) (fun i _ => m 8 (by omega) _) (m 6 (by omega) _) (fun row h1 h2 => m row (by omega) _) a10,
    rMon_f (k0 12 (by omega) 3) (k0 14 (by omega)) (k0 15 (by omega)) (k0 18 (by omega)) (m 5 (by omega) _) (fun i _ => m 8 (by omega) _) (fun i _ => m 14 (by omega) _) (fun i _ => m 16 (by omega) _) (fun i _ => m 17 (by omega) _) (fun i _ => m 18 (by omega) _) a11⟩, hH'⟩
  unfold rSc
  obtain ⟨e1, e2, e3, e4, e5, e6, e7, e8⟩ := a7
  rw [kb 9 (by omega), kb 10 (by omega), kb 11 (by omega), kb 12 (by omega), k15, m 3 (by omega), m 4 (by omega), m 5 (by omega), m 6 (by omega), m7]
  exact ⟨e1, e2, e3, e4, e5, Or.inr rfl, Or.inr rfl, e8⟩
def gl (M : Mem) (c r t : Nat) : Int32 := if M 8 (8 * c + (4 * r + t % 4)) = 0 then -1 else nI (4 * r + t % 4)
theorem M_goal (hc : c < 2) (hr : r < 2) (ht : t < 8) : f_X9_goal (nI c) (nI (2 * c + r)) (nI t) M = some (gl M c r t) := by
  unfold f_X9_goal gl
  rw [n_rem4 (by omega), n_rem2 (by omega), show (2 * c + r) % 2 = r by omega, n_4, n_ak, n_8, Nat.add_comm (t % 4)]
  simp only [lt, n_ak]
  rw [if_pos (inb_t (by omega) (by omega)), ix_nI (by omega)]
  by_cases h : M 8 (8 * c + (4 * r + t % 4)) = 0
  · rw [if_pos h, if_pos h]
  · rw [if_neg h, if_neg h]
theorem C_goal (hr : r < 2) (ht : t < 8) (hU : rUse b c K M) (hu : M 8 (8 * c + t) = 1) : f_X0_goalOf b (nI r) (nI t) K = some (gl M c r t) := by
  unfold f_X0_goalOf gl
  rw [C_ringOf ht, ob]
  by_cases h4 : t / 4 = r
  · have e : 4 * r + t % 4 = t := by omega
    rw [h4, if_pos rfl, e, if_neg (by rw [hu]; decide)]
  · have hn : ¬ nI (t / 4) = nI r := fun e => h4 ((eq_nI (by omega) (by omega)).mp e)
    rw [if_neg hn, n_a4, n_rem8 (by omega), show (t + 4) % 8 = 4 * r + t % 4 by omega]
    simp only [lt]
    rw [C_bit (by omega), ob]
    have htt := mk_tst hU.1 (p := 4 * r + t % 4) (by omega)
    unfold one at htt
    rw [one_z (hU.2 (4 * r + t % 4) (by omega)).1] at htt
    by_cases h : M 8 (8 * c + (4 * r + t % 4)) = 0
    · rw [if_pos (htt.mpr (by simp [h])), if_pos h]
    · rw [if_neg (fun e => by have := htt.mp e; simp [h] at this), if_neg h]
def gdn (M : Mem) (c r t : Nat) : Bool := decide (M 19 (2 * c + r) = 1) && (!decide (M 20 (2 * c + r) = gl M c r t) && (!decide (M 22 (2 * c + r) < M 2 (64 * c + 8 * ph M c r)) && decide (M 25 (2 * c + r) = 0)))
theorem M_gdone (hc : c < 2) (hr : r < 2) (ht : t < 8) (hg : rgM c r M) : f_X9_greaterDone (nI c) (nI (2 * c + r)) (nI t) M = some (bi (gdn M c r t)) := by
  have i4 : inb (nI (2 * c + r)) 4 = true := inb_t (by omega) (by omega)
  have x4 : ix (nI (2 * c + r)) = 2 * c + r := ix_nI (by omega)
  unfold f_X9_greaterDone gdn
  simp only [i4, x4, if_true, M_goal hc hr ht, ob]
  by_cases g1 : M 19 (2 * c + r) = 1
  · rcases hg with e | ⟨-, q, hq, e, -⟩
    · rw [g1] at e
      exact absurd e (by decide)
    · have hph := ph_of hr hq e
      rw [if_pos g1, hph]
      by_cases g2 : M 20 (2 * c + r) = gl M c r t
      · simp [g2, bi]
      · rw [if_neg g2, e, M_entry0 hc (by omega), ob]
        rw [e] at g2
        by_cases g3 : M 22 (2 * c + r) < M 2 (64 * c + 8 * (4 * r + q))
        · simp [g3, bi]
        · by_cases g4 : M 25 (2 * c + r) = 0 <;> simp [g1, g2, g3, g4, bi]
  · simp [g1, bi]
def Cl (c r : Nat) (M : Mem) : Mem := if M 25 (2 * c + r) = 1 then ks (ks M 25 (2 * c + r) 2) 26 (2 * c + r) 0 else M
def Gf (c t : Nat) (hr : Bool) (r : Nat) (M : Mem) : Mem := if (hr && (gdn M c r t && !decide (gl M c r t = -1))) = true then MYl c r (gl M c r t) M else M
theorem Cl_ok : (∀ row k, row ≠ 25 → row ≠ 26 → Cl c r M row k = M row k) ∧ uM c r M (Cl c r M) := by
  unfold Cl
  by_cases h : M 25 (2 * c + r) = 1
  · rw [if_pos h]
    exact ⟨fun row k h1 h2 => by rw [ks_i h2, ks_i h1], fun row k h1 h2 => by rw [ks_n (by omega), ks_n (by omega)]⟩
  · rw [if_neg h]
    exact ⟨fun _ _ _ _ => rfl, uM_rf⟩
theorem Gf_ok : (∀ row k, row ≠ 19 → row ≠ 21 → row ≠ 22 → Gf c t hr' r M row k = M row k) ∧ uM c r M (Gf c t hr' r M) ∧ (Gf c t hr' r M 19 (2 * c + r) = 0 ↔ M 19 (2 * c + r) = 0) := by
  unfold Gf
  by_cases h : (hr' && (gdn M c r t && !decide (gl M c r t = -1))) = true
  · rw [if_pos h]
    have g1 : M 19 (2 * c + r) = 1 := by
      unfold gdn at h
      simp only [Bool.and_eq_true, decide_eq_true_eq] at h
      exact h.2.1.1
    unfold MYl
    refine ⟨fun row k h1 h2 h3 => by rw [ks_i h2, ks_i h3, ks_i h1], fun row k h1 h2 => by rw [ks_n (by omega), ks_n (by omega), ks_n (by omega)], ?_⟩
    rw [ks_n (by omega), ks_n (by omega), ks_s, g1]
    exact ⟨fun e => absurd e (by decide), fun e => absurd e (by decide)⟩
  · rw [if_neg h]
    exact ⟨fun _ _ _ _ _ => rfl, uM_rf, Iff.rfl⟩
theorem gl_c (h : ∀ k, M' 8 k = M 8 k) : gl M' c r t = gl M c r t := by
  unfold gl
  rw [h]
theorem gdn_c {r2 : Nat} (hn : r2 ≠ r) (h : uM c r M M') : gdn M' c r2 t = gdn M c r2 t := by
  unfold gdn ph
  rw [gl_c (fun k => h 8 k (by omega) (by omega)), h 19 _ (by omega) (by omega), h 20 _ (by omega) (by omega), h 22 _ (by omega) (by omega), h 25 _ (by omega) (by omega), h 2 _ (by omega) (by omega)]
theorem GC_comm : Gf c t hr' 0 (Cl c 1 M) = Cl c 1 (Gf c t hr' 0 M) := by
  have e1 := gdn_c (t := t) (r2 := 0) (by omega) (Cl_ok (c := c) (r := 1) (M := M)).2
  have e2 := gl_c (c := c) (r := 0) (t := t) (fun k => (Cl_ok (c := c) (r := 1) (M := M)).1 8 k (by omega) (by omega))
  have e3 : Gf c t hr' 0 M 25 (2 * c + 1) = M 25 (2 * c + 1) := (Gf_ok (M := M)).1 25 _ (by omega) (by omega) (by omega)
  unfold Gf Cl at *
  rw [e1, e2, e3]
  by_cases hw : M 25 (2 * c + 1) = 1
  · rw [if_pos hw, if_pos hw]
    by_cases h : (hr' && (gdn M c 0 t && !decide (gl M c 0 t = -1))) = true
    · rw [if_pos h, if_pos h, MYl_ks (by omega), MYl_ks (by omega)]
    · rw [if_neg h, if_neg h]
  · rw [if_neg hw, if_neg hw]
theorem Cl_rg (hr : r < 2) {r2 : Nat} (h : rgM c r2 M) : rgM c r2 (Cl c r M) := by
  obtain ⟨e, -⟩ := Cl_ok (c := c) (r := r) (M := M)
  unfold rgM
  rw [e 19 _ (by omega) (by omega), e 20 _ (by omega) (by omega), e 6 _ (by omega) (by omega)]
  rcases h with h | ⟨h0, q, hq, h1, h2, h3⟩
  · exact Or.inl h
  · exact Or.inr ⟨h0, q, hq, h1, by rw [e 8 _ (by omega) (by omega)]; exact h2, h3⟩
theorem Gf_rg (hr : r < 2) {r2 : Nat} (hr2 : r2 < 2) (h : rgM c r2 M) : rgM c r2 (Gf c t hr' r M) := by
  obtain ⟨e, u, z⟩ := Gf_ok (c := c) (r := r) (M := M) (t := t) (hr' := hr')
  have z2 : Gf c t hr' r M 19 (2 * c + r2) = 0 ↔ M 19 (2 * c + r2) = 0 := by
    by_cases hq : r2 = r
    · subst hq
      exact z
    · rw [u 19 _ (by omega) (by omega)]
  unfold rgM
  rw [z2, e 20 _ (by omega) (by omega) (by omega), e 6 _ (by omega) (by omega) (by omega)]
  rcases h with h | ⟨h0, q, hq, h1, h2, h3⟩
  · exact Or.inl h
  · exact Or.inr ⟨h0, q, hq, h1, by rw [e 8 _ (by omega) (by omega) (by omega)]; exact h2, h3⟩
theorem C_give (hr : r < 2) (ht : t < 8) (hs : s < 2) (h : RQ b c K M) (hS : M 6 c = nI s) (hh : hr' = decide (t % 4 / 2 = s)) : ∃ K', f_X0_giveWay b (b + 16 + r) (gl M c r t) (bi hr') K = some K' ∧ RQ b c K' (Gf c t hr' r (Cl c r M)) ∧ uK b r K K' := by
  have hg := RQ_rg hr h
  -- clear
  obtain ⟨K1, f1, Q1, u1⟩ : ∃ K1, (if K (b + 16 + r) 8 = 4 then ((f_X6_beginClear (b + 16 + r) K).bind fun u4 => some u4) else some K : Option Mem) = some K1 ∧ RQ b c K1 (Cl c r M) ∧ uK b r K K1 := by
    unfold Cl
    by_cases hw : M 25 (2 * c + r) = 1
    · have h19 := (hg.2.2.2.2.2.2.2.2.2 (by rw [hw]; decide)).2
      obtain ⟨Q, u1, -⟩ := q_clear hr h19 h
      rw [if_pos ((rg_w1 hg).mpr hw), if_pos hw]
      exact ⟨_, rfl, Q, u1⟩
    · rw [if_neg (fun e => hw ((rg_w1 hg).mp e)), if_neg hw]
      exact ⟨K, rfl, h, uK_rf⟩
  have hc8 : ∀ k, Cl c r M 8 k = M 8 k := fun k => Cl_ok.1 8 k (by omega) (by omega)
  have hc6 : Cl c r M 6 c = nI s := by rw [Cl_ok.1 6 c (by omega) (by omega)]; exact hS
  have egl := gl_c (c := c) (r := r) (t := t) hc8
  unfold f_X0_giveWay
  rw [f1, ob, ← egl]
  generalize Cl c r M = M1 at *
  have hg1 := RQ_rg hr Q1
  rw [C_atp0 hr Q1.1.1 hg1, ob, C_mayEnd hg1, ob, hg1.2.1, eb, C_yellow]
  unfold Gf
  cases hr'
  · rw [Bool.false_and, bi_f, if_pos (show (0 : Int32) = 0 from rfl), if_neg (show ¬ false = true by decide)]
    exact ⟨K1, rfl, Q1, u1⟩
  · have hsd : t % 4 / 2 = s := of_decide_eq_true hh.symm
    rw [Bool.true_and, bi_t, if_neg n10]
    by_cases g0 : gl M1 c r t = -1
    · rw [if_pos g0, decide_eq_true g0, Bool.not_true, Bool.and_false, if_neg (show ¬ false = true by decide)]
      exact ⟨K1, rfl, Q1, u1⟩
    · rw [if_neg g0, decide_eq_false g0, Bool.not_false, Bool.and_true]
      unfold gdn
      by_cases g1 : M1 20 (2 * c + r) = gl M1 c r t
      · rw [if_pos g1, decide_eq_true g1, Bool.not_true, Bool.false_and, Bool.and_false, if_neg (show ¬ false = true by decide)]
        exact ⟨K1, rfl, Q1, u1⟩
      · rw [if_neg g1, decide_eq_false g1, Bool.not_false, Bool.true_and]
        by_cases g2 : M1 19 (2 * c + r) = 1
        · have g20 : ¬ M1 19 (2 * c + r) = 0 := by rw [g2]; decide
          rw [decide_eq_true g2, Bool.true_and, Bool.true_and, if_neg g20]
          by_cases g3 : M1 25 (2 * c + r) = 0
          · rw [decide_eq_true g3, Bool.true_and, Bool.and_true]
            by_cases g4 : M1 22 (2 * c + r) < M1 2 (64 * c + 8 * ph M1 c r)
            · rw [decide_eq_true g4, Bool.not_true, bi_f, if_pos (show (0 : Int32) = 0 from rfl), if_neg (show ¬ false = true by decide)]
              exact ⟨K1, rfl, Q1, u1⟩
            · rw [decide_eq_false g4, Bool.not_false, if_pos rfl, bi_t, if_neg n10]
              have hx : rPh c r M1 (gl M1 c r t) := by
                unfold gl at g0 ⊢
                by_cases hu : M1 8 (8 * c + (4 * r + t % 4)) = 0
                · rw [if_pos hu] at g0
                  exact absurd rfl g0
                · rw [if_neg hu]
                  exact ⟨t % 4, by omega, rfl, z01_one (Q1.1.2.1.2 (4 * r + t % 4) (by omega)).1 hu, by rw [hc6, hsd]⟩
              obtain ⟨Q, u2, -⟩ := q_yellow (x := gl M1 c r t) hr g20 g3 (Or.inr hx) Q1
              exact ⟨_, rfl, Q, uK_tr u1 u2⟩
          · rw [decide_eq_false g3, Bool.false_and, Bool.and_false, bi_f, if_pos (show (0 : Int32) = 0 from rfl), if_neg (show ¬ false = true by decide)]
            exact ⟨K1, rfl, Q1, u1⟩
        · rw [decide_eq_false g2, Bool.false_and, Bool.false_and, bi_f, if_pos (show (0 : Int32) = 0 from rfl), if_neg (show ¬ false = true by decide)]
          exact ⟨K1, rfl, Q1, u1⟩
theorem M_gL4 (hc : c < 2) (hr : r < 2) {x : Int32} (n : Nat) : f_X9_actGreater_L4 (nI c) x (n + 1) (nI (2 * c + r)) M = f_X9_actGreater_L4 (nI c) x n (nI (2 * c + r + 1)) (Cl c r M) := by
  have i4 : inb (nI (2 * c + r)) 4 = true := inb_t (by omega) (by omega)
  have x4 : ix (nI (2 * c + r)) = 2 * c + r := ix_nI (by omega)
  have hle : ¬ nI (2 * c + 2) ≤ nI (2 * c + r) := fun e => absurd ((le_nI (by omega) (by omega)).mp e) (by omega)
  rw [f_X9_actGreater_L4, n_2, n_a2, if_neg hle]
  simp only [i4, x4, if_true, st, lt, n_a1]
  unfold Cl
  by_cases h : M 25 (2 * c + r) = 1
  · rw [if_pos h, if_pos h, ob]
  · rw [if_neg h, if_neg h, ob]
theorem M_gL70 (hc : c < 2) (hr : r < 2) (ht : t < 8) (hg : rgM c r M) (n : Nat) : f_X9_actGreater_L70 (nI c) (nI t) (bi hr') (n + 1) (nI (2 * c + r)) M = f_X9_actGreater_L70 (nI c) (nI t) (bi hr') n (nI (2 * c + r + 1)) (Gf c t hr' r M) := by
  have hle : ¬ nI (2 * c + 2) ≤ nI (2 * c + r) := fun e => absurd ((le_nI (by omega) (by omega)).mp e) (by omega)
  rw [f_X9_actGreater_L70, n_2, n_a2, if_neg hle, M_gdone hc hr ht hg, ob]
  simp only [lt, n_a1, eb, M_goal hc hr ht, ob, M_yellow hc hr]
  unfold Gf
  cases hr'
  · simp [bi]
  · cases gdn M c r t
    · simp [bi]
    · by_cases hf : gl M c r t = -1
      · simp [bi, hf]
      · simp [bi, hf]
theorem C_mayLI (hr : r < 2) (hT : rTab b c K M) (h : rRing b c r K M) : f_X0_mayLeaveByInput b (b + 16 + r) K = some (bi (decide (M 19 (2 * c + r) = 0) || (decide (M 19 (2 * c + r) = 1) && (decide (M 25 (2 * c + r) = 0) && !decide (M 22 (2 * c + r) < M 2 (64 * c + 8 * ph M c r)))))) := by
  unfold f_X0_mayLeaveByInput
  rw [C_waits, ob, C_atp0 hr hT h, ob, C_mayEnd h, ob]
  by_cases h0 : M 19 (2 * c + r) = 0
  · rw [decide_eq_true ((rg_waits hr h).mpr h0)]
    simp [h0, bi]
  · rw [decide_eq_false (fun e => h0 ((rg_waits hr h).mp e)), if_neg h0]
    cases (decide (M 19 (2 * c + r) = 1) && (decide (M 25 (2 * c + r) = 0) && !decide (M 22 (2 * c + r) < M 2 (64 * c + 8 * ph M c r))))
    · simp [h0, bi]
    · simp [bi]
theorem gdn_away (hr : r < 2) (hs : s < 2) (ht : t < 8) (hg : rgM c r M) (hS : M 6 c = nI s) (hn : ¬ t % 4 / 2 = s) : gdn M c r t = (decide (M 19 (2 * c + r) = 1) && (decide (M 25 (2 * c + r) = 0) && !decide (M 22 (2 * c + r) < M 2 (64 * c + 8 * ph M c r)))) := by
  unfold gdn
  rcases hg with e | ⟨-, q, hq, e, -, e6⟩
  · simp [e]
  · have hne : ¬ M 20 (2 * c + r) = gl M c r t := by
      rw [e]
      unfold gl
      rw [hS] at e6
      have := (eq_nI (by omega) (by omega)).mp e6
      by_cases hu : M 8 (8 * c + (4 * r + t % 4)) = 0
      · rw [if_pos hu]
        exact nI_ne_m1 (by omega)
      · rw [if_neg hu]
        intro e7
        have := (eq_nI (by omega) (by omega)).mp e7
        omega
    rw [decide_eq_false hne]
    cases decide (M 19 (2 * c + r) = 1) <;> cases decide (M 25 (2 * c + r) = 0) <;> cases decide (M 22 (2 * c + r) < M 2 (64 * c + 8 * ph M c r)) <;> rfl
theorem gr_step (hc : c < 2) (hr : r < 2) (ht : t < 8) {x y : Int32} (h : RQ b c K M) (hu : M 8 (8 * c + t) = 1) : ∃ K' M', (∀ n, f_X0_goByInput_L111 b (nI t) x (n + 1) (nI r) K = f_X0_goByInput_L111 b (nI t) x n (nI (r + 1)) K') ∧ (∀ n, f_X9_actGreater_L160 (nI c) (nI t) y (n + 1) (nI (2 * c + r)) M = f_X9_actGreater_L160 (nI c) (nI t) y n (nI (2 * c + r + 1)) M') ∧ RQ b c K' M' ∧ uK b r K K' ∧ uM c r M M' := by
  have i4 : inb (nI (2 * c + r)) 4 = true := inb_t (by omega) (by omega)
  have x4 : ix (nI (2 * c + r)) = 2 * c + r := ix_nI (by omega)
  have i2 : inb (nI c) 2 = true := inb_t hc (by omega)
  have x2 : ix (nI c) = c := ix_nI (by omega)
  have hle : ¬ nI (2 * c + 2) ≤ nI (2 * c + r) := fun e => absurd ((le_nI (by omega) (by omega)).mp e) (by omega)
  have hg := RQ_rg hr h
  have h12 : K b 12 = M 6 c := h.1.2.2.2.2.2.2.1.2.2.1
  obtain ⟨s, hs, hS⟩ := sd_of h.1
  have eC : ∀ n, f_X0_goByInput_L111 b (nI t) x (n + 1) (nI r) K = ((if M 19 (2 * c + r) = 0 then (if gl M c r t = -1 then some K else (if nI (t % 4 / 2) = nI s then f_X0_begin b (b + 16 + r) (gl M c r t) K else some K)) else some K) : Option Mem).bind fun v => f_X0_goByInput_L111 b (nI t) x n (nI (r + 1)) v := by
    intro n
    rw [f_X0_goByInput_L111, if_neg (c2_no hr), C_goal hr ht h.1.2.1 hu, ob]
    simp only [lt, n_a1, C_ring hr, ob, C_waits, eb]
    rw [h12, hS]
    by_cases z : M 19 (2 * c + r) = 0
    · rw [decide_eq_true ((rg_waits hr hg).mpr z), if_pos z, bi_t, if_neg n10]
      by_cases g : gl M c r t = -1
      · rw [if_pos g, if_pos g]
      · rw [if_neg g, if_neg g]
        have hsd : f_X8_sideOf (gl M c r t) K = some (nI (t % 4 / 2)) := by
          unfold gl at g ⊢
          by_cases hz : M 8 (8 * c + (4 * r + t % 4)) = 0
          · rw [if_pos hz] at g
            exact absurd rfl g
          · rw [if_neg hz, C_sideOf (by omega), show (4 * r + t % 4) % 4 / 2 = t % 4 / 2 by omega]
        rw [hsd, ob]
    · rw [decide_eq_false (fun e => z ((rg_waits hr hg).mp e)), if_neg z, bi_f, if_pos rfl]
  have eM : ∀ n, f_X9_actGreater_L160 (nI c) (nI t) y (n + 1) (nI (2 * c + r)) M = ((if M 19 (2 * c + r) = 0 then (if gl M c r t = -1 then some M else (if nI (t % 4 / 2) = nI s then f_X9_begin (nI c) (gl M c r t) M else some M)) else some M) : Option Mem).bind fun v => f_X9_actGreater_L160 (nI c) (nI t) y n (nI (2 * c + r + 1)) v := by
    intro n
    rw [f_X9_actGreater_L160, n_2, n_a2, if_neg hle]
    simp only [i4, x4, i2, x2, if_true, lt, n_a1, eb, M_sideOf ht, ob, M_goal hc hr ht, hS]
    by_cases z : M 19 (2 * c + r) = 0
    · rw [if_pos z, if_pos z]
      by_cases e : nI (t % 4 / 2) = nI s
      · rw [if_pos e.symm, if_pos e]
      · rw [if_neg (fun e2 => e e2.symm), if_neg e]
        by_cases g : gl M c r t = -1
        · rw [if_pos g]
        · rw [if_neg g]
    · rw [if_neg z, if_neg z]
  by_cases z : M 19 (2 * c + r) = 0
  · by_cases g : gl M c r t = -1
    · exact ⟨K, M, fun n => by rw [eC, if_pos z, if_pos g, ob], fun n => by rw [eM, if_pos z, if_pos g, ob], h, uK_rf, uM_rf⟩
    · by_cases e : nI (t % 4 / 2) = nI s
      · have hus : M 8 (8 * c + (4 * r + t % 4)) = 1 ∧ gl M c r t = nI (4 * r + t % 4) := by
          unfold gl at g ⊢
          by_cases hz : M 8 (8 * c + (4 * r + t % 4)) = 0
          · rw [if_pos hz] at g
            exact absurd rfl g
          · rw [if_neg hz]
            exact ⟨z01_one (h.1.2.1.2 (4 * r + t % 4) (by omega)).1 hz, rfl⟩
        obtain ⟨K', M', a1, a2, a3, a4, a5⟩ := s_begin hc hr (q := t % 4) (by omega) h hus.1 (by rw [hS, e])
        rw [← hus.2] at a1 a2
        exact ⟨K', M', fun n => by rw [eC, if_pos z, if_neg g, if_pos e, a1, ob], fun n => by rw [eM, if_pos z, if_neg g, if_pos e, a2, ob], a3, a4, a5⟩
      · exact ⟨K, M, fun n => by rw [eC, if_pos z, if_neg g, if_neg e, ob], fun n => by rw [eM, if_pos z, if_neg g, if_neg e, ob], h, uK_rf, uM_rf⟩
  · exact ⟨K, M, fun n => by rw [eC, if_neg z, ob], fun n => by rw [eM, if_neg z, ob], h, uK_rf, uM_rf⟩
end Gt
