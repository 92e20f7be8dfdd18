/-! A TICK, (e): leaving a side, crossing -/
section Cx
variable {b c r s : Nat} {K M M' : Mem} {w fc : Bool}
theorem C_may {f : Int32} (hr : r < 2) (hT : rTab b c K M) (h : rRing b c r K M) (h2 : K (b + 16 + r) 2 = f) (h3 : K (b + 16 + r) 3 = bi w) : f_X0_mayLeave b (b + 16 + r) (bi fc) K = some (bi (decide (M 19 (2 * c + r) = 0) || (dnw M c r w fc && decide (f = -1)))) := by
  unfold f_X0_mayLeave
  rw [C_waits, ob, C_done hr hT h h3, ob, h2]
  by_cases h0 : M 19 (2 * c + r) = 0
  · rw [decide_eq_true ((rg_waits hr h).mpr h0)]
    simp [h0, bi]
  · rw [decide_eq_false (fun e => h0 ((rg_waits hr h).mp e))]
    cases dnw M c r w fc
    · simp [h0, bi]
    · by_cases hf : f = -1 <;> simp [h0, hf, bi]
def Lf (c r : Nat) (M : Mem) : Mem := if M 19 (2 * c + r) = 1 then MYl c r (-1) M else M
theorem Lf_ok (hr : r < 2) (hg : rgM c r M) : sim c M (Lf c r M) ∧ uM c r M (Lf c r M) := by
  unfold Lf
  by_cases hw : M 19 (2 * c + r) = 1
  · rw [if_pos hw]
    exact sim_Y hr hg hw
  · rw [if_neg hw]
    exact ⟨sim_rf, uM_rf⟩
theorem c2_no (h : r < 2) : ¬ (2 : Int32) ≤ nI r := fun e => absurd ((q_le 2 r (by omega) (by omega)).mp e) (by omega)
theorem C_lvs (hr : r < 2) (h : RQ b c K M) (hw : M 19 (2 * c + r) = 1 → M 25 (2 * c + r) = 0) : ∃ K', (∀ n, f_X0_leaveSide_L2 b (n + 1) (nI r) K = f_X0_leaveSide_L2 b n (nI (r + 1)) K') ∧ RQ b c K' (Lf c r M) ∧ uK b r K K' := by
  have hg := RQ_rg hr h
  have eL : ∀ n, f_X0_leaveSide_L2 b (n + 1) (nI r) K = f_X0_leaveSide_L2 b n (nI (r + 1)) (if M 19 (2 * c + r) = 1 then KYl b r (-1) K else K) := by
    intro n
    rw [f_X0_leaveSide_L2, if_neg (c2_no hr), C_ring hr, ob, C_isGreen, ob]
    simp only [lt, n_a1, C_yellow, ob]
    by_cases g1 : M 19 (2 * c + r) = 1
    · rw [decide_eq_true ((rg_green hg).mpr g1)]
      simp [g1, bi]
    · rw [decide_eq_false (fun e => g1 ((rg_green hg).mp e))]
      simp [g1, bi]
  refine ⟨_, eL, ?_⟩
  unfold Lf
  by_cases g1 : M 19 (2 * c + r) = 1
  · rw [if_pos g1, if_pos g1]
    obtain ⟨Q, u1, u2⟩ := q_yellow (x := -1) hr (by rw [g1]; decide) (hw g1) (Or.inl rfl) h
    exact ⟨Q, u1⟩
  · rw [if_neg g1, if_neg g1]
    exact ⟨h, uK_rf⟩
theorem C_leave (h : RQ b c K M) (hw : ∀ r, r < 2 → M 19 (2 * c + r) = 1 → M 25 (2 * c + r) = 0) : ∃ K', f_X0_leaveSide b K = some K' ∧ RQ b c K' (Lf c 1 (Lf c 0 M)) ∧ oK b K K' := by
  obtain ⟨hg0, hg1⟩ := RQ_gs h
  obtain ⟨K1, a1, a2, a3⟩ := C_lvs (r := 0) (by omega) h (hw 0 (by omega))
  have u := (Lf_ok (r := 0) (by omega) hg0).2
  obtain ⟨K2, d1, d2, d3⟩ := C_lvs (r := 1) (by omega) a2 (by rw [u 19 _ (by omega) (by omega), u 25 _ (by omega) (by omega)]; exact hw 1 (by omega))
  refine ⟨K2, ?_, d2, oK_tr (uK_o (by omega) a3) (uK_o (by omega) d3)⟩
  unfold f_X0_leaveSide
  show (f_X0_leaveSide_L2 b (69 + 1) (nI 0) K).bind _ = _
  rw [a1]
  show (f_X0_leaveSide_L2 b (68 + 1) (nI 1) K1).bind _ = _
  rw [d1]
  show (f_X0_leaveSide_L2 b (67 + 1) (nI 2) K2).bind _ = _
  rw [f_X0_leaveSide_L2, if_pos (by decide), ob]
theorem M_L10 (hc : c < 2) (hr : r < 2) {x : Int32} {a o d : Bool} (hD : ¬ M 19 (2 * c + r) = 0 → (if 0 ≤ x then f_X9_greaterDone (nI c) (nI (2 * c + r)) x M else f_X9_plainDone (nI c) (nI (2 * c + r)) M) = some (bi d)) (n : Nat) : f_X9_empty_L10 (nI c) x (n + 1) (bi a) (bi o) (nI (2 * c + r)) M = f_X9_empty_L10 (nI c) x n (bi (a && (decide (M 19 (2 * c + r) = 0) || d))) (bi (o || decide (M 19 (2 * c + r) = 1))) (nI (2 * c + r + 1)) M := by
  have i4 : inb (nI (2 * c + r)) 4 = true := inb_t (by omega) (by omega)
  have x4 : ix (nI (2 * c + r)) = 2 * c + r := ix_nI (by omega)
  have hle : ¬ nI (2 * c + 2) ≤ nI (2 * c + r) := fun e => absurd ((le_nI (by omega) (by omega)).mp e) (by omega)
  have e1 : (if bi a = 0 then some 0 else (if M 19 (2 * c + r) = 0 then some 1 else (if 0 ≤ x then ((f_X9_greaterDone (nI c) (nI (2 * c + r)) x M).bind fun u7 => if u7 = 0 then some 0 else some 1) else ((f_X9_plainDone (nI c) (nI (2 * c + r)) M).bind fun u9 => if u9 = 0 then some 0 else some 1))) : Option Int32) = some (bi (a && (decide (M 19 (2 * c + r) = 0) || d))) := by
    cases a
    · rfl
    · rw [bi_t, if_neg n10]
      by_cases h0 : M 19 (2 * c + r) = 0
      · simp [h0, bi]
      · rw [if_neg h0]
        have := hD h0
        by_cases hx : 0 ≤ x
        · rw [if_pos hx] at this
          rw [if_pos hx, this, ob]
          cases d <;> simp [h0, bi]
        · rw [if_neg hx] at this
          rw [if_neg hx, this, ob]
          cases d <;> simp [h0, bi]
  have e2 : (if bi o = 0 then (if M 19 (2 * c + r) = 1 then some 1 else some 0) else some 1 : Option Int32) = some (bi (o || decide (M 19 (2 * c + r) = 1))) := by
    cases o
    · by_cases h1 : M 19 (2 * c + r) = 1 <;> simp [h1, bi]
    · simp [bi]
  rw [f_X9_empty_L10, n_2, n_a2, if_neg hle]
  simp only [i4, x4, if_true, lt, n_a1]
  rw [e1, ob, e2, ob]
theorem M_L10x (hc : c < 2) {x y z : Int32} (n : Nat) : f_X9_empty_L10 (nI c) x (n + 1) y z (nI (2 * c + 2)) M = some (y, z, nI (2 * c + 2)) := by
  rw [f_X9_empty_L10, n_2, n_a2, if_pos ((le_nI (by omega) (by omega)).mpr (by omega))]
theorem M_L102 (hc : c < 2) (hr : r < 2) {x : Int32} (n : Nat) : f_X9_empty_L102 (nI c) x (bi true) (bi true) (n + 1) (nI (2 * c + r)) M = f_X9_empty_L102 (nI c) x (bi true) (bi true) n (nI (2 * c + r + 1)) (Lf c r M) := by
  have i4 : inb (nI (2 * c + r)) 4 = true := inb_t (by omega) (by omega)
  have x4 : ix (nI (2 * c + r)) = 2 * c + r := ix_nI (by omega)
  have hle : ¬ nI (2 * c + 2) ≤ nI (2 * c + r) := fun e => absurd ((le_nI (by omega) (by omega)).mp e) (by omega)
  rw [f_X9_empty_L102, n_2, n_a2, if_neg hle, bi_t, if_neg n10, if_neg n10, if_pos i4, x4]
  simp only [M_yellow hc hr, ob, lt, n_a1]
  unfold Lf
  by_cases h1 : M 19 (2 * c + r) = 1
  · rw [if_pos h1, if_pos h1, ob]
  · rw [if_neg h1, if_neg h1, ob]
theorem M_empty (hc : c < 2) {x : Int32} {d0 d1 : Bool} (h0 : ¬ M 19 (2 * c) = 0 → (if 0 ≤ x then f_X9_greaterDone (nI c) (nI (2 * c)) x M else f_X9_plainDone (nI c) (nI (2 * c)) M) = some (bi d0)) (h1 : ¬ M 19 (2 * c + 1) = 0 → (if 0 ≤ x then f_X9_greaterDone (nI c) (nI (2 * c + 1)) x M else f_X9_plainDone (nI c) (nI (2 * c + 1)) M) = some (bi d1)) :
    f_X9_empty (nI c) x M = some (if ((decide (M 19 (2 * c) = 0) || d0) && (decide (M 19 (2 * c + 1) = 0) || d1)) = true then Lf c 1 (Lf c 0 M) else M) := by
  have hle : ¬ nI (2 * c + 2) ≤ nI (2 * c) := fun e => absurd ((le_nI (by omega) (by omega)).mp e) (by omega)
  unfold f_X9_empty
  simp only [lt, n_2]
  have e1 : f_X9_empty_L10 (nI c) x 70 1 0 (nI (2 * c)) M = some (bi ((decide (M 19 (2 * c) = 0) || d0) && (decide (M 19 (2 * c + 1) = 0) || d1)), bi (decide (M 19 (2 * c) = 1) || decide (M 19 (2 * c + 1) = 1)), nI (2 * c + 2)) := by
    show f_X9_empty_L10 (nI c) x (69 + 1) (bi true) (bi false) (nI (2 * c + 0)) M = _
    rw [M_L10 (r := 0) (d := d0) hc (by omega) h0]
    show f_X9_empty_L10 (nI c) x (68 + 1) (bi _) (bi _) (nI (2 * c + 1)) M = _
    rw [M_L10 (r := 1) (d := d1) hc (by omega) h1]
    show f_X9_empty_L10 (nI c) x (67 + 1) (bi _) (bi _) (nI (2 * c + 2)) M = _
    rw [M_L10x hc, Bool.true_and, Bool.false_or]
    rfl
  rw [e1, ob]
  cases hA : ((decide (M 19 (2 * c) = 0) || d0) && (decide (M 19 (2 * c + 1) = 0) || d1))
  · rw [if_neg (by decide)]
    show (f_X9_empty_L102 (nI c) x (bi false) _ (69 + 1) (nI (2 * c)) M).bind _ = _
    rw [f_X9_empty_L102, n_2, n_a2, if_neg hle, bi_f, if_pos rfl, ob]
  · rw [if_pos rfl]
    cases hO : (decide (M 19 (2 * c) = 1) || decide (M 19 (2 * c + 1) = 1))
    · show (f_X9_empty_L102 (nI c) x (bi true) (bi false) (69 + 1) (nI (2 * c)) M).bind _ = _
      rw [f_X9_empty_L102, n_2, n_a2, if_neg hle, bi_t, if_neg n10, bi_f, if_pos rfl, ob]
      rw [Bool.or_eq_false_iff] at hO
      have a0 : Lf c 0 M = M := by
        unfold Lf
        exact if_neg (of_decide_eq_false hO.1)
      have a1 : Lf c 1 M = M := by
        unfold Lf
        exact if_neg (of_decide_eq_false hO.2)
      rw [a0, a1]
    · show (f_X9_empty_L102 (nI c) x (bi true) (bi true) (69 + 1) (nI (2 * c + 0)) M).bind _ = _
      rw [M_L102 hc (by omega)]
      show (f_X9_empty_L102 (nI c) x (bi true) (bi true) (68 + 1) (nI (2 * c + 1)) _).bind _ = _
      rw [M_L102 hc (by omega)]
      show (f_X9_empty_L102 (nI c) x (bi true) (bi true) (67 + 1) (nI (2 * c + 2)) _).bind _ = _
      rw [f_X9_empty_L102, n_2, n_a2, if_pos ((le_nI (by omega) (by omega)).mpr (by omega)), ob]
theorem M_both (hc : c < 2) : f_X9_bothWait (nI c) M = some (bi (decide (M 19 (2 * c) = 0) && decide (M 19 (2 * c + 1) = 0))) := by
  have i4 : inb (nI (2 * c)) 4 = true := inb_t (by omega) (by omega)
  have x4 : ix (nI (2 * c)) = 2 * c := ix_nI (by omega)
  have i5 : inb (nI (2 * c + 1)) 4 = true := inb_t (by omega) (by omega)
  have x5 : ix (nI (2 * c + 1)) = 2 * c + 1 := ix_nI (by omega)
  unfold f_X9_bothWait
  rw [n_2, n_a1, if_pos i4, if_pos i5, x4, x5]
  by_cases h0 : M 19 (2 * c) = 0 <;> by_cases h1 : M 19 (2 * c + 1) = 0 <;> simp [h0, h1, bi]
theorem q_side (hs : s < 2) (h0 : M 19 (2 * c) = 0) (h1 : M 19 (2 * c + 1) = 0) (h : RQ b c K M) : RQ b c (ks K b 12 (nI s)) (ks M 6 c (nI s)) := by
  have kb : ∀ k, k ≠ 12 → (ks K b 12 (nI s)) b k = K b k := fun k h1 => by rw [ks_k h1]
  have k0 : ∀ i, 1 ≤ i → sK b i K (ks K b 12 (nI s)) := fun i hi k => by rw [ks_i (by omega)]
  have m : ∀ row, row ≠ 6 → ∀ k, (ks M 6 c (nI s)) row k = M row k := fun row h1 k => ks_i h1
  have m6 : (ks M 6 c (nI s)) 6 c = nI s := ks_s _ _ _ _
  have k12 : (ks K b 12 (nI s)) b 12 = nI s := ks_s _ _ _ _
  generalize ks K b 12 (nI s) = K2 at *
  generalize ks M 6 c (nI s) = M2 at *
  obtain ⟨⟨a1, a2, a3, a4, a5, a6, a7, a8, a9, a10, a11⟩, hH⟩ := h
  have hH' : K2 b 15 = M2 7 c := by rw [kb 15 (by omega), m 7 (by omega)]; exact hH
  have rr : ∀ r, r < 2 → M 19 (2 * c + r) = 0 → rRing b c r K M → rRing b c r K2 M2 := by
    intro r hr hz hR
    have kk : ∀ j, K2 (b + 16 + r) j = K (b + 16 + r) j := fun j => by rw [Nat.add_assoc]; exact k0 (16 + r) (by omega) j
    obtain ⟨e1, e2, e3, e4, e5, e6, e7, e8, e9, e10⟩ := hR
    unfold rRing
    rw [kk, kk, kk, kk, kk, kk, kk, kk, m 19 (by omega), m 20 (by omega), m 21 (by omega), m 22 (by omega), m 23 (by omega), m 24 (by omega), m 25 (by omega), m 26 (by omega)]
    exact ⟨e1, e2, e3, e4, e5, e6, e7, fun e => absurd hz e, e9, e10⟩
  refine ⟨⟨rTab_f (k0 2 (by omega)) (k0 4 (by omega)) (fun i _ => m 1 (by omega) _) (fun i _ => m 2 (by omega) _) a1,
    rUse_f (kb 10 (by omega)) (fun i _ => m 8 (by omega) _) (fun i _ => m 2 (by omega) _) a2,
    rCal_f (kb 13 (by omega)) (kb 14 (by omega)) (fun i _ => m 8 (by omega) _) (fun i _ => m 9 (by omega) _) (fun i _ => m 10 (by omega) _) a3,
    rDet_f (k0 5 (by omega)) (k0 6 (by omega)) (k0 7 (by omega)) (fun i _ => m 11 (by omega) _) (fun i _ => m 12 (by omega) _) (fun i _ => m 13 (by omega) _) a4,
    rLnk_f (k0 8 (by omega)) (fun j _ e => by rw [m 29 (by omega)]; exact e) (m 32 (by omega) _) (m 33 (by omega) _) (m 34 (by omega) _) (m 35 (by omega) _) a5,
    rInp_f (k0 10 (by omega)) (k0 11 (by omega)) (fun i _ => m 27 (by omega) _) (fun i _ => m 28 (by omega) _) a6, ?_, Or.inl hH', rr 0 (by omega) h0 a9, rr 1 (by omega) h1 a10,
    rMon_f (k0 12 (by omega) 3) (k0 14 (by omega)) (k0 15 (by omega)) (k0 18 (by omega)) (m 5 (by omega) _) (fun i _ => m 8 (by omega) _) (fun i _ => m 14 (by omega) _) (fun i _ => m 16 (by omega) _) (fun i _ => m 17 (by omega) _) (fun i _ => m 18 (by omega) _) a11⟩, hH'⟩
  unfold rSc
  obtain ⟨e1, e2, e3, e4, e5, e6, e7, e8⟩ := a7
  rw [kb 9 (by omega), kb 10 (by omega), kb 11 (by omega), k12, kb 15 (by omega), m 3 (by omega), m 4 (by omega), m 5 (by omega), m6, m 7 (by omega)]
  refine ⟨e1, e2, rfl, ?_, e5, e6, e7, e8⟩
  rcases (show s = 0 ∨ s = 1 by omega) with rfl | rfl
  · exact Or.inl rfl
  · exact Or.inr rfl
theorem n_4r (c : Nat) : nI c * (4 : Int32) = nI (4 * c) := by rw [show (4 : Int32) = nI 4 from rfl, pk_mul, Nat.mul_comm]
theorem n_2r (c : Nat) : nI c * (2 : Int32) = nI (2 * c) := by rw [show (2 : Int32) = nI 2 from rfl, pk_mul, Nat.mul_comm]
theorem C_first {m : Int32} {f : Nat → Bool} (hr : r < 2) (hs : s < 2) (h12 : K b 12 = nI s) (hm : mk m f) : f_X0_firstOfSide b (nI r) m K = some (if f (4 * r + 2 * s) = true then nI (4 * r + 2 * s) else if f (4 * r + (2 * s + 1)) = true then nI (4 * r + (2 * s + 1)) else -1) := by
  unfold f_X0_firstOfSide
  rw [h12, n_4r, n_2r, n_ak]
  simp only [lt, n_a1, Nat.add_assoc]
  rw [C_bit (by omega), C_bit (by omega), ob, ob]
  have t1 := mk_tst hm (p := 4 * r + 2 * s) (by omega)
  have t2 := mk_tst hm (p := 4 * r + (2 * s + 1)) (by omega)
  cases h1 : f (4 * r + 2 * s)
  · rw [if_pos (t1.mpr h1)]
    cases h2 : f (4 * r + (2 * s + 1))
    · rw [if_pos (t2.mpr h2)]
      rfl
    · rw [if_neg (fun e : m &&& jshl 1 (nI (4 * r + (2 * s + 1))) = 0 => by rw [t2.mp e] at h2; cases h2)]
      rfl
  · rw [if_neg (fun e : m &&& jshl 1 (nI (4 * r + 2 * s)) = 0 => by rw [t1.mp e] at h1; cases h1)]
    rfl
theorem cal_use (h : RC b c K M) {p : Nat} (hp : p < 8) (hcl : cal M c p = true) : M 8 (8 * c + p) = 1 := by
  obtain ⟨z9, z10, u9, u10⟩ := h.2.2.1.2.2 p hp
  unfold cal at hcl
  rw [Bool.and_eq_true, Bool.or_eq_true] at hcl
  rcases hcl.1 with e1 | e1
  · exact u9 (z01_one z9 (by simpa using e1))
  · exact u10 (z01_one z10 (by simpa using e1))
theorem cross_step (hc : c < 2) (hr : r < 2) (hs : s < 2) (h : RQ b c K M) (hS : M 6 c = nI s) {m x : Int32} {f : Nat → Bool} (hm : mk m f) (hf : ∀ p, p < 8 → p / 4 = r → f p = cal M c p) : ∃ K' M', (∀ n, f_X0_cross_L26 b m (n + 1) (nI r) K = f_X0_cross_L26 b m n (nI (r + 1)) K') ∧ (∀ n, f_X9_cross_L62 (nI c) x (n + 1) (nI r) M = f_X9_cross_L62 (nI c) x n (nI (r + 1)) M') ∧ RQ b c K' M' ∧ uK b r K K' ∧ uM c r M M' := by
  have h12 : K b 12 = nI s := by rw [h.1.2.2.2.2.2.2.1.2.2.1]; exact hS
  have i2 : inb (nI c) 2 = true := inb_t hc (by omega)
  have x2 : ix (nI c) = c := ix_nI (by omega)
  have f1 := C_first hr hs h12 hm
  have f2 := C_first hr hs h12 h.1.2.1.1
  have i16 : inb (nI (8 * c + (4 * r + 2 * s))) 16 = true := inb_t (by omega) (by omega)
  have x16 : ix (nI (8 * c + (4 * r + 2 * s))) = 8 * c + (4 * r + 2 * s) := ix_nI (by omega)
  have i17 : inb (nI (8 * c + (4 * r + (2 * s + 1)))) 16 = true := inb_t (by omega) (by omega)
  have x17 : ix (nI (8 * c + (4 * r + (2 * s + 1)))) = 8 * c + (4 * r + (2 * s + 1)) := ix_nI (by omega)
  have z0 := (h.1.2.1.2 (4 * r + 2 * s) (by omega)).1
  have z1 := (h.1.2.1.2 (4 * r + (2 * s + 1)) (by omega)).1
  have fa := hf (4 * r + 2 * s) (by omega) (by omega)
  have fb := hf (4 * r + (2 * s + 1)) (by omega) (by omega)
  unfold one at f2
  have eC : ∀ n, f_X0_cross_L26 b m (n + 1) (nI r) K = ((if f (4 * r + 2 * s) = true then f_X0_begin b (b + 16 + r) (nI (4 * r + 2 * s)) K else if f (4 * r + (2 * s + 1)) = true then f_X0_begin b (b + 16 + r) (nI (4 * r + (2 * s + 1))) K else if M 8 (8 * c + (4 * r + 2 * s)) = 1 then f_X0_begin b (b + 16 + r) (nI (4 * r + 2 * s)) K else if M 8 (8 * c + (4 * r + (2 * s + 1))) = 1 then f_X0_begin b (b + 16 + r) (nI (4 * r + (2 * s + 1))) K else some K) : Option Mem).bind fun v => f_X0_cross_L26 b m n (nI (r + 1)) v := by
    intro n
    have q1 : ¬ nI (4 * r + 2 * s) = -1 := nI_ne_m1 (by omega)
    have q2 : ¬ nI (4 * r + (2 * s + 1)) = -1 := nI_ne_m1 (by omega)
    rw [f_X0_cross_L26, if_neg (c2_no hr), f1, ob]
    simp only [lt, eb, n_a1, C_ring hr, ob]
    rw [f2]
    by_cases g1 : f (4 * r + 2 * s) = true
    · simp [g1, q1]
    · by_cases g2 : f (4 * r + (2 * s + 1)) = true
      · simp [g1, g2, q2]
      · by_cases g3 : M 8 (8 * c + (4 * r + 2 * s)) = 1
        · simp [g1, g2, g3, q1]
        · by_cases g4 : M 8 (8 * c + (4 * r + (2 * s + 1))) = 1
          · simp [g1, g2, g3, g4, q2]
          · simp [g1, g2, g3, g4]
  have eM : ∀ n, f_X9_cross_L62 (nI c) x (n + 1) (nI r) M = ((if f (4 * r + 2 * s) = true then f_X9_begin (nI c) (nI (4 * r + 2 * s)) M else if f (4 * r + (2 * s + 1)) = true then f_X9_begin (nI c) (nI (4 * r + (2 * s + 1))) M else if M 8 (8 * c + (4 * r + 2 * s)) = 1 then f_X9_begin (nI c) (nI (4 * r + 2 * s)) M else if M 8 (8 * c + (4 * r + (2 * s + 1))) = 1 then f_X9_begin (nI c) (nI (4 * r + (2 * s + 1))) M else some M) : Option Mem).bind fun v => f_X9_cross_L62 (nI c) x n (nI (r + 1)) v := by
    intro n
    rw [f_X9_cross_L62, if_neg (c2_no hr), if_pos i2, x2, hS, n_4, n_2, n_ak]
    simp only [lt, eb, n_a1, n_8, n_ak, Nat.add_assoc, i16, x16, i17, x17, if_true]
    rw [M_called hc (by omega), ob, M_called hc (by omega), ob, ← fa, ← fb]
    cases f (4 * r + 2 * s)
    · cases f (4 * r + (2 * s + 1))
      · rcases z0 with e0 | e0
        · rcases z1 with e1 | e1 <;> simp [e0, e1, bi]
        · simp [e0, bi]
      · simp [bi]
    · simp [bi]
  have hq1 : nI s = nI (2 * s / 2) := by rw [show 2 * s / 2 = s by omega]
  have hq2 : nI s = nI ((2 * s + 1) / 2) := by rw [show (2 * s + 1) / 2 = s by omega]
  have bg1 : M 8 (8 * c + (4 * r + 2 * s)) = 1 → _ := fun hu => s_begin hc hr (q := 2 * s) (by omega) h hu (hS.trans hq1)
  have bg2 : M 8 (8 * c + (4 * r + (2 * s + 1))) = 1 → _ := fun hu => s_begin hc hr (q := 2 * s + 1) (by omega) h hu (hS.trans hq2)
  by_cases g1 : f (4 * r + 2 * s) = true
  · obtain ⟨K', M', a1, a2, a3, a4, a5⟩ := bg1 (cal_use h.1 (by omega) (by rw [← fa]; exact g1))
    exact ⟨K', M', fun n => by rw [eC, if_pos g1, a1, ob], fun n => by rw [eM, if_pos g1, a2, ob], a3, a4, a5⟩
  · by_cases g2 : f (4 * r + (2 * s + 1)) = true
    · obtain ⟨K', M', a1, a2, a3, a4, a5⟩ := bg2 (cal_use h.1 (by omega) (by rw [← fb]; exact g2))
      exact ⟨K', M', fun n => by rw [eC, if_neg g1, if_pos g2, a1, ob], fun n => by rw [eM, if_neg g1, if_pos g2, a2, ob], a3, a4, a5⟩
    · by_cases g3 : M 8 (8 * c + (4 * r + 2 * s)) = 1
      · obtain ⟨K', M', a1, a2, a3, a4, a5⟩ := bg1 g3
        exact ⟨K', M', fun n => by rw [eC, if_neg g1, if_neg g2, if_pos g3, a1, ob], fun n => by rw [eM, if_neg g1, if_neg g2, if_pos g3, a2, ob], a3, a4, a5⟩
      · by_cases g4 : M 8 (8 * c + (4 * r + (2 * s + 1))) = 1
        · obtain ⟨K', M', a1, a2, a3, a4, a5⟩ := bg2 g4
          exact ⟨K', M', fun n => by rw [eC, if_neg g1, if_neg g2, if_neg g3, if_pos g4, a1, ob], fun n => by rw [eM, if_neg g1, if_neg g2, if_neg g3, if_pos g4, a2, ob], a3, a4, a5⟩
        · exact ⟨K, M, fun n => by rw [eC, if_neg g1, if_neg g2, if_neg g3, if_neg g4, ob], fun n => by rw [eM, if_neg g1, if_neg g2, if_neg g3, if_neg g4, ob], h, uK_rf, uM_rf⟩
theorem cross_loop (hc : c < 2) (hs : s < 2) (h : RQ b c K M) (hS : M 6 c = nI s) {m x : Int32} {f : Nat → Bool} (hm : mk m f) (hf : ∀ p, p < 8 → f p = cal M c p) : ∃ K' M', (f_X0_cross_L26 b m 70 0 K = some (nI 2, K')) ∧ (f_X9_cross_L62 (nI c) x 70 0 M = some (nI 2, M')) ∧ RQ b c K' M' ∧ oK b K K' ∧ oY c M M' := by
  obtain ⟨K1, M1, a1, a2, a3, a4, a5⟩ := cross_step (r := 0) (x := x) hc (by omega) hs h hS hm (fun p hp _ => hf p hp)
  obtain ⟨K2, M2, d1, d2, d3, d4, d5⟩ := cross_step (r := 1) (x := x) hc (by omega) hs a3 (by rw [a5 6 c (by omega) (by omega)]; exact hS) hm (fun p hp hp4 => by
    rw [hf p hp]
    unfold cal grn
    rw [a5 9 _ (by omega) (by omega), a5 10 _ (by omega) (by omega), a5 19 _ (by omega) (by omega), a5 20 _ (by omega) (by omega)])
  refine ⟨K2, M2, ?_, ?_, d3, oK_tr (uK_o (by omega) a4) (uK_o (by omega) d4), oY_tr (uM_y (by omega) a5) (uM_y (by omega) d5)⟩
  · show f_X0_cross_L26 b m (69 + 1) (nI 0) K = _
    rw [a1]
    show f_X0_cross_L26 b m (68 + 1) (nI 1) K1 = _
    rw [d1]
    show f_X0_cross_L26 b m (67 + 1) (nI 2) K2 = _
    rw [f_X0_cross_L26, if_pos (by decide)]
  · show f_X9_cross_L62 (nI c) x (69 + 1) (nI 0) M = _
    rw [a2]
    show f_X9_cross_L62 (nI c) x (68 + 1) (nI 1) M1 = _
    rw [d2]
    show f_X9_cross_L62 (nI c) x (67 + 1) (nI 2) M2 = _
    rw [f_X9_cross_L62, if_pos (by decide)]
end Cx
