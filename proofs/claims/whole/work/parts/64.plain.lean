/-! A TICK, (e): walks, yellows, leaving a side -/
section Pl
variable {b c r s : Nat} {K M M' : Mem} {w fc : Bool}
theorem fo_ph (hr : r < 2) (h : RQ b c K M) : fo M c r = -1 ∨ rPh c r M (fo M c r) := by
  unfold fo
  rcases rg_cases hr (RQ_rg hr h) with h0 | ⟨h0, q, hq, e, hu, h6⟩
  · exact Or.inl (if_pos h0)
  · rw [if_neg h0, e, ix_nI (by omega)]
    unfold fwd
    by_cases ho : (4 * r + q) % 2 = 1
    · exact Or.inl (if_pos ho)
    · rw [if_neg ho]
      by_cases hcl : cal M c (4 * r + q + 1) = true
      · rw [if_pos hcl]
        refine Or.inr ⟨q + 1, by omega, rfl, ?_, by rw [h6, show (q + 1) / 2 = q / 2 by omega]⟩
        obtain ⟨z9, z10, u9, u10⟩ := h.1.2.2.1.2.2 (4 * r + q + 1) (by omega)
        unfold cal at hcl
        rw [Bool.and_eq_true, Bool.or_eq_true] at hcl
        rcases hcl.1 with e1 | e1
        · exact u9 (z01_one z9 (by simpa using e1))
        · exact u10 (z01_one z10 (by simpa using e1))
      · exact Or.inl (if_neg hcl)
theorem dnw_t (h : dnw M c r w fc = true) : w = true ∧ M 19 (2 * c + r) = 1 ∧ M 25 (2 * c + r) = 0 := by
  unfold dnw at h
  simp only [Bool.and_eq_true, decide_eq_true_eq] at h
  exact ⟨h.1.1, h.1.2.1, h.1.2.2.1⟩
theorem wkB_t (h : wkB M c r s = true) : M 19 (2 * c + r) = 1 ∧ M 25 (2 * c + r) = 0 ∧ wt M c r s = false ∧ ¬ M 10 (8 * c + ph M c r) = 0 := by
  unfold wkB at h
  simp only [Bool.and_eq_true, decide_eq_true_eq, Bool.not_eq_true', decide_eq_false_iff_not] at h
  exact ⟨h.1.1, h.1.2.1, h.1.2.2, h.2⟩
theorem ylB_t (h : ylB M c r s fc = true) : dnw M c r (wt M c r s) fc = true ∧ ¬ fo M c r = -1 := by
  unfold ylB at h
  simp only [Bool.and_eq_true, Bool.not_eq_true', decide_eq_false_iff_not] at h
  exact h
theorem Af_ok (hr : r < 2) (hg : rgM c r M) : sim c M (Af c s r M) ∧ uM c r M (Af c s r M) := by
  unfold Af
  by_cases hw : wkB M c r s = true
  · rw [if_pos hw]
    exact sim_W hr hg (wkB_t hw).1
  · rw [if_neg hw]
    exact ⟨sim_rf, uM_rf⟩
theorem Yf_ok (hr : r < 2) (hg : rgM c r M) : sim c M (Yf c s fc r M) ∧ uM c r M (Yf c s fc r M) := by
  unfold Yf
  by_cases hw : ylB M c r s fc = true
  · rw [if_pos hw]
    exact sim_Y hr hg (dnw_t (ylB_t hw).1).2.1
  · rw [if_neg hw]
    exact ⟨sim_rf, uM_rf⟩
theorem dnw_c {r2 : Nat} (hn : r2 ≠ r) (h : uM c r M M') : dnw M' c r2 w fc = dnw M c r2 w fc := by
  unfold dnw ph
  rw [h 19 _ (by omega) (by omega), h 20 _ (by omega) (by omega), h 22 _ (by omega) (by omega), h 23 _ (by omega) (by omega), h 24 _ (by omega) (by omega), h 25 _ (by omega) (by omega), h 2 _ (by omega) (by omega), h 2 _ (by omega) (by omega)]
theorem yl_c {r2 : Nat} (h2 : r2 < 2) (hs : s < 2) (hn : r2 ≠ r) (h : uM c r M M') (hm : sim c M M') (hg0 : rgM c 0 M) (hg1 : rgM c 1 M) (hS : M 6 c = nI s) : ylB M' c r2 s fc = ylB M c r2 s fc := by
  have hg : rgM c r2 M := by
    rcases (show r2 = 0 ∨ r2 = 1 by omega) with rfl | rfl
    · exact hg0
    · exact hg1
  unfold ylB
  rw [sim_wt h2 hs hm hg0 hg1 hS, sim_fo h2 hm hg, dnw_c hn h]
theorem wk_c {r2 : Nat} (hr : r < 2) (h2 : r2 < 2) (hs : s < 2) (hn : r2 ≠ r) (h : uM c r M M') (hm : sim c M M') (hg0 : rgM c 0 M) (hg1 : rgM c 1 M) (hS : M 6 c = nI s) : wkB M' c r2 s = wkB M c r2 s := by
  have hg : rgM c r2 M := by
    rcases (show r2 = 0 ∨ r2 = 1 by omega) with rfl | rfl
    · exact hg0
    · exact hg1
  unfold wkB ph
  rw [sim_wt h2 hs hm hg0 hg1 hS, h 19 _ (by omega) (by omega), h 20 _ (by omega) (by omega), h 25 _ (by omega) (by omega)]
  rcases hg with e | ⟨-, q, hq, e, -⟩
  · simp [e]
  · rw [e, ix_nI (by omega), h 10 _ (by omega) (by omega)]
theorem ks_comm {M : Mem} {i k j l : Nat} {v w : Int32} (h : i ≠ j ∨ k ≠ l) : ks (ks M i k v) j l w = ks (ks M j l w) i k v := by
  funext x y
  by_cases h1 : x = j ∧ y = l
  · obtain ⟨rfl, rfl⟩ := h1
    rw [ks_s, ks_n (by omega), ks_s]
  · have h1' : x ≠ j ∨ y ≠ l := by omega
    rw [ks_n h1']
    by_cases h2 : x = i ∧ y = k
    · obtain ⟨rfl, rfl⟩ := h2
      rw [ks_s, ks_s]
    · have h2' : x ≠ i ∨ y ≠ k := by omega
      rw [ks_n h2', ks_n h2', ks_n h1']
theorem MYl_ks {i k : Nat} {v x : Int32} (h : i ≠ 19 ∧ i ≠ 21 ∧ i ≠ 22) : MYl c r x (ks M i k v) = ks (MYl c r x M) i k v := by
  unfold MYl
  rw [ks_comm (i := i) (j := 19) (by omega), ks_comm (i := i) (j := 22) (by omega), ks_comm (i := i) (j := 21) (by omega)]
theorem WY_comm {x : Int32} : MWk c 1 (MYl c 0 x M) = MYl c 0 x (MWk c 1 M) := by
  have e : ph (MYl c 0 x M) c 1 = ph M c 1 := by
    unfold ph MYl
    rw [ks_n (by omega), ks_n (by omega), ks_n (by omega)]
  unfold MWk
  rw [e, MYl_ks (by omega), MYl_ks (by omega), MYl_ks (by omega)]
theorem AY_comm (hs : s < 2) (hg0 : rgM c 0 M) (hg1 : rgM c 1 M) (hS : M 6 c = nI s) : Af c s 1 (Yf c s fc 0 M) = Yf c s fc 0 (Af c s 1 M) := by
  obtain ⟨a1, a2⟩ := Yf_ok (s := s) (fc := fc) (by omega) hg0
  obtain ⟨d1, d2⟩ := Af_ok (s := s) (by omega) hg1
  have e1 := wk_c (s := s) (r2 := 1) (by omega) (by omega) hs (by omega) a2 a1 hg0 hg1 hS
  have e2 := yl_c (s := s) (fc := fc) (r2 := 0) (by omega) hs (by omega) d2 d1 hg0 hg1 hS
  have e3 := sim_fo (r := 0) (by omega) d1 hg0
  unfold Af at e2 e3 ⊢
  unfold Yf at e1 ⊢
  rw [e1]
  by_cases hw : wkB M c 1 s = true
  · rw [if_pos hw, if_pos hw]
    rw [if_pos hw] at e2 e3
    rw [e2, e3]
    by_cases hy : ylB M c 0 s fc = true
    · rw [if_pos hy, if_pos hy, WY_comm]
    · rw [if_neg hy, if_neg hy]
  · rw [if_neg hw, if_neg hw]
theorem C_yellow {x : Int32} : f_X6_turnYellow (b + 16 + r) x K = some (KYl b r x K) := rfl
theorem M_yellow {x : Int32} (hc : c < 2) (hr : r < 2) : f_X9_yellow (nI (2 * c + r)) x M = some (MYl c r x M) := by
  have i4 : inb (nI (2 * c + r)) 4 = true := inb_t (by omega) (by omega)
  have x4 : ix (nI (2 * c + r)) = 2 * c + r := ix_nI (by omega)
  simp only [f_X9_yellow, i4, x4, if_true, st, MYl]
theorem RQ_gs (h : RQ b c K M) : rgM c 0 M ∧ rgM c 1 M := ⟨rg_M (by omega) (RQ_rg (by omega) h), rg_M (by omega) (RQ_rg (by omega) h)⟩
theorem C_goOn (hr : r < 2) (hs : s < 2) (h : RQ b c K M) (hS : M 6 c = nI s) (h2 : K (b + 16 + r) 2 = fo M c r) (h3 : K (b + 16 + r) 3 = bi (wt M c r s)) : ∃ K', f_X0_goOn b (b + 16 + r) (bi fc) K = some K' ∧ RQ b c K' (Yf c s fc r (Af c s r M)) ∧ uK b r K K' ∧ K' (b + 16 + r) 2 = fo M c r ∧ K' (b + 16 + r) 3 = bi (wt M c r s) := by
  have hg := RQ_rg hr h
  obtain ⟨hg0, hg1⟩ := RQ_gs h
  have hgr := rg_M hr hg
  have hT := h.1.1
  have ev3 : (if bi (decide (K (b + 16 + r) 4 = 4)) = 0 then some 0 else (if K (b + 16 + r) 8 = 0 then (if K (b + 16 + r) 3 = 0 then some 1 else some 0) else some 0) : Option Int32) = some (bi (decide (M 19 (2 * c + r) = 1) && (decide (M 25 (2 * c + r) = 0) && !wt M c r s))) := by
    rw [h3]
    by_cases g1 : M 19 (2 * c + r) = 1
    · rw [decide_eq_true ((rg_green hg).mpr g1)]
      by_cases g2 : M 25 (2 * c + r) = 0
      · have := (rg_w0 hg).mpr g2
        cases wt M c r s <;> simp [bi, this, g1, g2]
      · have : ¬ K (b + 16 + r) 8 = 0 := fun e => g2 ((rg_w0 hg).mp e)
        simp [bi, this, g2]
    · rw [decide_eq_false (fun e => g1 ((rg_green hg).mp e))]
      simp [bi, g1]
  unfold f_X0_goOn
  rw [C_isGreen, ob, ev3, ob]
  simp only [lt, eb]
  by_cases hw : wkB M c r s = true
  · obtain ⟨w1, w2, w3, w4⟩ := wkB_t hw
    rcases hgr with e | ⟨h0, q, hq, e, hu, h6⟩
    · rw [w1] at e
      exact absurd e (by decide)
    · have hph := ph_of hr hq e
      have k0 : K (b + 16 + r) 0 = nI (4 * r + q) := by rw [hg.2.1]; exact e
      have htt := mk_tst h.1.2.2.1.2.1 (p := 4 * r + q) (by omega)
      have ht : ¬ K b 14 &&& jshl 1 (nI (4 * r + q)) = 0 := fun e0 => by
        have e1 := htt.mp e0
        unfold one at e1
        rw [hph] at w4
        rw [one_z (h.1.2.2.1.2.2 (4 * r + q) (by omega)).2.1] at e1
        simp [w4] at e1
      obtain ⟨Q, u1, u2⟩ := q_walk (p := 4 * r + q) hr (by omega) w1 h
      have eA : Af c s r M = ks (ks (ks M 25 (2 * c + r) 1) 26 (2 * c + r) 0) 10 (8 * c + (4 * r + q)) 0 := by
        unfold Af
        rw [if_pos hw]
        unfold MWk
        rw [hph]
      have hA := Af_ok (s := s) hr (Or.inr ⟨h0, q, hq, e, hu, h6⟩)
      have hwt := sim_wt hr hs hA.1 hg0 hg1 hS
      rw [eA] at hwt hA
      have eY : Yf c s fc r (Af c s r M) = ks (ks (ks M 25 (2 * c + r) 1) 26 (2 * c + r) 0) 10 (8 * c + (4 * r + q)) 0 := by
        rw [eA]
        unfold Yf
        rw [if_neg]
        intro hy
        have := (dnw_t (ylB_t hy).1).1
        rw [hwt, w3] at this
        cases this
      have k3 : ks (ks (ks K (b + 16 + r) 8 4) (b + 16 + r) 9 0) b 14 (K b 14 &&& (jshl 1 (nI (4 * r + q)) ^^^ (-1))) (b + 16 + r) 3 = bi (wt M c r s) := by
        rw [ks_n (by omega), ks_n (by omega), ks_n (by omega), h3]
      have k2 : ks (ks (ks K (b + 16 + r) 8 4) (b + 16 + r) 9 0) b 14 (K b 14 &&& (jshl 1 (nI (4 * r + q)) ^^^ (-1))) (b + 16 + r) 2 = fo M c r := by
        rw [ks_n (by omega), ks_n (by omega), ks_n (by omega), h2]
      have hd := C_done (fc := fc) (w := wt M c r s) hr Q.1.1 (RQ_rg hr Q) k3
      rw [eY]
      refine ⟨_, ?_, Q, u1, k2, k3⟩
      have e1 : (decide (M 19 (2 * c + r) = 1) && (decide (M 25 (2 * c + r) = 0) && !wt M c r s)) = true := by simp [w1, w2, w3]
      rw [e1, bi_t, if_neg n10, k0, C_bit (by omega), ob, if_neg ht, C_walk (by omega) k0, ob, hd, ob]
      have e2 : dnw (ks (ks (ks M 25 (2 * c + r) 1) 26 (2 * c + r) 0) 10 (8 * c + (4 * r + q)) 0) c r (wt M c r s) fc = false := by
        rw [w3]
        unfold dnw
        simp
      rw [e2, bi_f, if_pos rfl]
  · have eA : Af c s r M = M := by
      unfold Af
      rw [if_neg hw]
    have ev7 : (if bi (decide (M 19 (2 * c + r) = 1) && (decide (M 25 (2 * c + r) = 0) && !wt M c r s)) = 0 then some K else (f_X8_bit (K (b + 16 + r) 0) K).bind fun u10 => if K b 14 &&& u10 = 0 then some K else f_X0_beginWalk b (b + 16 + r) K : Option Mem) = some K := by
      cases hmw : (decide (M 19 (2 * c + r) = 1) && (decide (M 25 (2 * c + r) = 0) && !wt M c r s))
      · rfl
      · rw [bi_t, if_neg n10]
        have g1 : M 19 (2 * c + r) = 1 := by
          rw [Bool.and_eq_true] at hmw
          exact of_decide_eq_true hmw.1
        rcases hgr with e | ⟨h0, q, hq, e, hu, h6⟩
        · rw [g1] at e
          exact absurd e (by decide)
        · have hph := ph_of hr hq e
          rw [hg.2.1, e, C_bit (by omega), ob]
          have htt := mk_tst h.1.2.2.1.2.1 (p := 4 * r + q) (by omega)
          rw [if_pos (htt.mpr ?_)]
          unfold one
          rw [one_z (h.1.2.2.1.2.2 (4 * r + q) (by omega)).2.1]
          unfold wkB at hw
          rw [hmw, hph] at hw
          simpa using hw
    have hd := C_done (fc := fc) (w := wt M c r s) hr hT hg h3
    rw [ev7, ob, hd, ob, eA, h2]
    unfold Yf
    by_cases hy : ylB M c r s fc = true
    · obtain ⟨y1, y2⟩ := ylB_t hy
      obtain ⟨-, y3, y4⟩ := dnw_t y1
      obtain ⟨Q, u1, u2⟩ := q_yellow (x := fo M c r) hr (by rw [y3]; decide) y4 (fo_ph hr h) h
      rw [if_pos hy, y1, bi_t, if_neg n10, if_neg y2, C_yellow]
      exact ⟨_, rfl, Q, u1, by unfold KYl; rw [ks_k (by omega), ks_k (by omega), ks_k (by omega), h2], by unfold KYl; rw [ks_k (by omega), ks_k (by omega), ks_k (by omega), h3]⟩
    · rw [if_neg hy]
      refine ⟨K, ?_, h, uK_rf, h2, h3⟩
      cases hdn : dnw M c r (wt M c r s) fc
      · rfl
      · rw [bi_t, if_neg n10, if_pos]
        unfold ylB at hy
        rw [hdn] at hy
        simpa using hy
theorem M_L4 (hc : c < 2) (hr : r < 2) (hs : s < 2) (hS : M 6 c = nI s) (hg : rgM c r M) (n : Nat) : f_X9_actPlain_L4 (nI c) (n + 1) (nI (2 * c + r)) M = f_X9_actPlain_L4 (nI c) n (nI (2 * c + r + 1)) (Af c s r M) := by
  have i4 : inb (nI (2 * c + r)) 4 = true := inb_t (by omega) (by omega)
  have x4 : ix (nI (2 * c + r)) = 2 * c + r := ix_nI (by omega)
  have hle : ¬ nI (2 * c + 2) ≤ nI (2 * c + r) := fun e => absurd ((le_nI (by omega) (by omega)).mp e) (by omega)
  rw [f_X9_actPlain_L4, n_2, n_a2, if_neg hle]
  simp only [i4, x4, if_true, lt, n_a1, eb]
  have hww := M_wt hc hr hs hS hg
  unfold Af wkB
  by_cases g1 : M 19 (2 * c + r) = 1
  · rcases hg with e | ⟨h0, q, hq, e, hu, h6⟩
    · rw [g1] at e
      exact absurd e (by decide)
    · have hph := ph_of hr hq e
      have i16 : inb (nI (8 * c + (4 * r + q))) 16 = true := inb_t (by omega) (by omega)
      have x16 : ix (nI (8 * c + (4 * r + q))) = 8 * c + (4 * r + q) := ix_nI (by omega)
      rw [if_pos g1, e, n_8, n_ak, if_pos i16, x16, hww, ob, M_walk hc hr (by omega) e, hph]
      unfold MWk
      rw [hph]
      by_cases g2 : M 10 (8 * c + (4 * r + q)) = 0
      · simp [g2]
      · by_cases g3 : M 25 (2 * c + r) = 0
        · cases wt M c r s
          · simp [g1, g2, g3, bi]
          · simp [g2, g3, bi]
        · simp [g2, g3]
  · simp [g1]
theorem M_L4x (hc : c < 2) (n : Nat) : f_X9_actPlain_L4 (nI c) (n + 1) (nI (2 * c + 2)) M = some (nI (2 * c + 2), M) := by
  rw [f_X9_actPlain_L4, n_2, n_a2, if_pos ((le_nI (by omega) (by omega)).mpr (by omega))]
theorem M_L76 (hc : c < 2) (hr : r < 2) (hs : s < 2) (hS : M 6 c = nI s) (hg : rgM c r M) (h32 : M 32 c = -1 ∨ ∃ j, j < 4 ∧ M 32 c = nI j) (n : Nat) : f_X9_actPlain_L76 (nI c) (n + 1) (nI (2 * c + r)) M = f_X9_actPlain_L76 (nI c) n (nI (2 * c + r + 1)) (Yf c s (ery M c && decide (s = 1)) r M) := by
  have hle : ¬ nI (2 * c + 2) ≤ nI (2 * c + r) := fun e => absurd ((le_nI (by omega) (by omega)).mp e) (by omega)
  rw [f_X9_actPlain_L76, n_2, n_a2, if_neg hle, M_done hc hr hs hS hg h32, ob]
  simp only [lt, n_a1, eb, M_fo hc hr hg, ob, M_yellow hc hr]
  unfold Yf ylB
  cases dnw M c r (wt M c r s) (ery M c && decide (s = 1))
  · simp [bi]
  · by_cases hf : fo M c r = -1
    · simp [bi, hf]
    · simp [bi, hf]
theorem M_L76x (hc : c < 2) (n : Nat) : f_X9_actPlain_L76 (nI c) (n + 1) (nI (2 * c + 2)) M = some (nI (2 * c + 2), M) := by
  rw [f_X9_actPlain_L76, n_2, n_a2, if_pos ((le_nI (by omega) (by omega)).mpr (by omega))]
end Pl
