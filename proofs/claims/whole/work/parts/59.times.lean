/-! A TICK, (d): begin, weigh, the times of a ring -/
section Ti
variable {b c r q : Nat} {K M : Mem}
theorem C_walk {p : Nat} (hp : p < 8) (h0 : K (b + 16 + r) 0 = nI p) : f_X0_beginWalk b (b + 16 + r) K = some (ks (ks (ks K (b + 16 + r) 8 4) (b + 16 + r) 9 0) b 14 (K b 14 &&& (jshl 1 (nI p) ^^^ (-1)))) := by
  simp only [f_X0_beginWalk, f_X6_beginWalk, st, ob]
  have e1 : ks (ks K (b + 16 + r) 8 4) (b + 16 + r) 9 0 (b + 16 + r) 0 = nI p := by rw [ks_n (by omega), ks_n (by omega), h0]
  have e2 : ks (ks K (b + 16 + r) 8 4) (b + 16 + r) 9 0 b 14 = K b 14 := by rw [ks_n (by omega), ks_n (by omega)]
  rw [e1, e2, C_bit hp, ob]
theorem M_walk {p : Nat} (hc : c < 2) (hr : r < 2) (hp : p < 8) (h0 : M 20 (2 * c + r) = nI p) : f_X9_beginWalk (nI c) (nI (2 * c + r)) M = some (ks (ks (ks M 25 (2 * c + r) 1) 26 (2 * c + r) 0) 10 (8 * c + p) 0) := by
  have e1 : ks (ks M 25 (2 * c + r) 1) 26 (2 * c + r) 0 20 (2 * c + r) = nI p := by rw [ks_n (by omega), ks_n (by omega), h0]
  have i4 : inb (nI (2 * c + r)) 4 = true := inb_t (by omega) (by omega)
  have x4 : ix (nI (2 * c + r)) = 2 * c + r := ix_nI (by omega)
  have i16 : inb (nI (8 * c + p)) 16 = true := inb_t (by omega) (by omega)
  have x16 : ix (nI (8 * c + p)) = 8 * c + p := ix_nI (by omega)
  simp only [f_X9_beginWalk, i4, x4, if_true, st, e1, n_8, n_ak, i16, x16, nar_0]
theorem s_begin (hc : c < 2) (hr : r < 2) (hq : q < 4) (h : RQ b c K M) (hu : M 8 (8 * c + (4 * r + q)) = 1) (hsd : M 6 c = nI (q / 2)) : ∃ K' M', f_X0_begin b (b + 16 + r) (nI (4 * r + q)) K = some K' ∧ f_X9_begin (nI c) (nI (4 * r + q)) M = some M' ∧ RQ b c K' M' ∧ uK b r K K' ∧ uM c r M M' := by
  have hp : 4 * r + q < 8 := by omega
  have hT := h.1.1
  have hx := C_ext (p := 4 * r + q) h.1.2.2.2.1 hp
  obtain ⟨ps, hps, ep⟩ := (hT (8 * (4 * r + q) + 1) (by omega)).2.2.2
  obtain ⟨wt, hwt, ew⟩ := (hT (8 * (4 * r + q) + 5) (by omega)).2.2.2
  obtain ⟨rc, hrc, er⟩ := (hT (8 * (4 * r + q) + 7) (by omega)).2.2.2
  have i4 : inb (nI (2 * c + r)) 4 = true := inb_t (by omega) (by omega)
  have x4 : ix (nI (2 * c + r)) = 2 * c + r := ix_nI (by omega)
  have i16 : inb (nI (8 * c + (4 * r + q))) 16 = true := inb_t (by omega) (by omega)
  have x16 : ix (nI (8 * c + (4 * r + q))) = 8 * c + (4 * r + q) := ix_nI (by omega)
  have hro : f_X9_ringOf (nI c) (nI (4 * r + q)) M = some (nI (2 * c + r)) := by
    rw [M_ringOf hp, show (4 * r + q) / 4 = r by omega]
  have g0 := mk_tst h.1.2.2.1.2.1 hp
  obtain ⟨-, z10, -, -⟩ := h.1.2.2.1.2.2 (4 * r + q) hp
  unfold one at g0
  rw [one_z z10] at g0
  -- the gap
  generalize hpa : (!decide (M 11 (8 * c + (4 * r + q)) = 0) && !decide ((60 : Int32) ≤ M 12 (8 * c + (4 * r + q)))) = pa at hx
  obtain ⟨g, hg, eg⟩ : ∃ g, g ≤ 99 ∧ (if bi pa = 0 then some 0 else some (nI ps) : Option Int32) = some (nI g) := by
    cases pa
    · exact ⟨0, by omega, rfl⟩
    · exact ⟨ps, hps, rfl⟩
  obtain ⟨Q, f1, f2⟩ := q_begin hr hq hu hsd hg h
  -- the first part of the class's
  have eC : f_X0_begin b (b + 16 + r) (nI (4 * r + q)) K = (fun K13 => (if ((K13 b 14) &&& jshl 1 (nI (4 * r + q))) = 0 then (if nI rc = 3 then (some 1) else (some 0)) else (some 1) : Option (Int32)).bind fun x21 => if x21 = 0 then (some K13) else (if nI wt = 0 then (some K13) else ((f_X0_beginWalk b (b + 16 + r) K13).bind fun u24 => some u24))) (ks (ks (ks (ks (ks (ks (ks (ks K (b + 16 + r) 0 (nI (4 * r + q))) (b + 16 + r) 1 (-1)) (b + 16 + r) 6 0) (b + 16 + r) 7 (nI g)) (b + 16 + r) 8 0) (b + 16 + r) 4 4) (b + 16 + r) 5 0) b 13 (K b 13 &&& (jshl 1 (nI (4 * r + q)) ^^^ (-1)))) := by
    have t1 : ∀ K2 : Mem, (∀ k, K2 (b + 3 + 1) k = K (b + 3 + 1) k) → f_X7_at (b + 3) (nI (4 * r + q)) 7 K2 = some (nI rc) ∧ f_X7_at (b + 3) (nI (4 * r + q)) 5 K2 = some (nI wt) := fun K2 hk => ⟨by rw [C_at7 hp, hk, at_M hT (by omega), er], by rw [C_at5 hp, hk, at_M hT (by omega), ew]⟩
    rw [f_X0_begin, hx, ob]
    simp only [lt]
    rw [C_at1 hp, at_M hT (by omega), ep, ob, eg, ob]
    simp only [f_X6_begin, f_X6_show, st, ob, C_bit hp]
    rw [ks_n (K := ks (ks (ks (ks (ks (ks K (b + 16 + r) 0 (nI (4 * r + q))) (b + 16 + r) 1 (-1)) (b + 16 + r) 6 0) (b + 16 + r) 7 (nI g)) (b + 16 + r) 8 0) (b + 16 + r) 4 4) (a := b) (b := 13) (by omega), ks_n (a := b) (b := 13) (by omega), ks_n (a := b) (b := 13) (by omega), ks_n (a := b) (b := 13) (by omega), ks_n (a := b) (b := 13) (by omega), ks_n (a := b) (b := 13) (by omega), ks_n (a := b) (b := 13) (by omega)]
    obtain ⟨a7, a5⟩ := t1 (ks (ks (ks (ks (ks (ks (ks (ks K (b + 16 + r) 0 (nI (4 * r + q))) (b + 16 + r) 1 (-1)) (b + 16 + r) 6 0) (b + 16 + r) 7 (nI g)) (b + 16 + r) 8 0) (b + 16 + r) 4 4) (b + 16 + r) 5 0) b 13 (K b 13 &&& (jshl 1 (nI (4 * r + q)) ^^^ (-1)))) (fun k => by (repeat rw [ks_n (by omega)]))
    rw [a7, a5]
    simp only [ob]
  have eM : f_X9_begin (nI c) (nI (4 * r + q)) M = (fun K18 => if nI wt ≤ 0 then (some K18) else (if (K18 10 (8 * c + (4 * r + q))) = 0 then (if nI rc = 3 then ((f_X9_beginWalk (nI c) (nI (2 * c + r)) K18).bind fun u23 => some u23) else (some K18)) else ((f_X9_beginWalk (nI c) (nI (2 * c + r)) K18).bind fun u25 => some u25))) (ks (ks (ks (ks (ks (ks (ks (ks M 19 (2 * c + r) 1) 20 (2 * c + r) (nI (4 * r + q))) 21 (2 * c + r) (-1)) 22 (2 * c + r) 0) 9 (8 * c + (4 * r + q)) 0) 23 (2 * c + r) 0) 24 (2 * c + r) (nI g)) 25 (2 * c + r) 0) := by
    have t1 : ∀ K2 : Mem, (∀ k, K2 2 k = M 2 k) → f_X9_entry (nI c) (nI (4 * r + q)) 7 K2 = some (nI rc) ∧ f_X9_entry (nI c) (nI (4 * r + q)) 5 K2 = some (nI wt) ∧ f_X9_entry (nI c) (nI (4 * r + q)) 1 K2 = some (nI ps) := fun K2 hk => ⟨by rw [M_entry7 hc hp, hk, er], by rw [M_entry5 hc hp, hk, ew], by rw [M_entry1 hc hp, hk, ep]⟩
    have t2 : ∀ K2 : Mem, (∀ k, K2 11 k = M 11 k) → (∀ k, K2 12 k = M 12 k) → f_X9_passes (nI c) (nI (4 * r + q)) K2 = some (bi pa) := fun K2 h1 h2 => by rw [M_passes hc hp, h1, h2, hpa]
    rw [f_X9_begin, hro, ob]
    simp only [lt, st, i4, x4, if_true, n_8, n_ak, i16, x16, nar_0]
    obtain ⟨-, -, a1⟩ := t1 (ks (ks (ks (ks (ks (ks M 19 (2 * c + r) 1) 20 (2 * c + r) (nI (4 * r + q))) 21 (2 * c + r) (-1)) 22 (2 * c + r) 0) 9 (8 * c + (4 * r + q)) 0) 23 (2 * c + r) 0) (fun k => by (repeat rw [ks_n (by omega)]))
    have b1 := t2 (ks (ks (ks (ks (ks (ks M 19 (2 * c + r) 1) 20 (2 * c + r) (nI (4 * r + q))) 21 (2 * c + r) (-1)) 22 (2 * c + r) 0) 9 (8 * c + (4 * r + q)) 0) 23 (2 * c + r) 0) (fun k => by (repeat rw [ks_n (by omega)])) (fun k => by (repeat rw [ks_n (by omega)]))
    rw [a1, b1, ob, ob, eg, ob]
    obtain ⟨a7, a5, -⟩ := t1 (ks (ks (ks (ks (ks (ks (ks (ks M 19 (2 * c + r) 1) 20 (2 * c + r) (nI (4 * r + q))) 21 (2 * c + r) (-1)) 22 (2 * c + r) 0) 9 (8 * c + (4 * r + q)) 0) 23 (2 * c + r) 0) 24 (2 * c + r) (nI g)) 25 (2 * c + r) 0) (fun k => by (repeat rw [ks_n (by omega)]))
    rw [a5, ob, a7]
    simp only [ob]
  have v14 : (ks (ks (ks (ks (ks (ks (ks (ks K (b + 16 + r) 0 (nI (4 * r + q))) (b + 16 + r) 1 (-1)) (b + 16 + r) 6 0) (b + 16 + r) 7 (nI g)) (b + 16 + r) 8 0) (b + 16 + r) 4 4) (b + 16 + r) 5 0) b 13 (K b 13 &&& (jshl 1 (nI (4 * r + q)) ^^^ (-1)))) b 14 = K b 14 := by (repeat rw [ks_n (by omega)])
  have v0 : (ks (ks (ks (ks (ks (ks (ks (ks K (b + 16 + r) 0 (nI (4 * r + q))) (b + 16 + r) 1 (-1)) (b + 16 + r) 6 0) (b + 16 + r) 7 (nI g)) (b + 16 + r) 8 0) (b + 16 + r) 4 4) (b + 16 + r) 5 0) b 13 (K b 13 &&& (jshl 1 (nI (4 * r + q)) ^^^ (-1)))) (b + 16 + r) 0 = nI (4 * r + q) := by simp [ks]
  have v10 : (ks (ks (ks (ks (ks (ks (ks (ks M 19 (2 * c + r) 1) 20 (2 * c + r) (nI (4 * r + q))) 21 (2 * c + r) (-1)) 22 (2 * c + r) 0) 9 (8 * c + (4 * r + q)) 0) 23 (2 * c + r) 0) 24 (2 * c + r) (nI g)) 25 (2 * c + r) 0) 10 (8 * c + (4 * r + q)) = M 10 (8 * c + (4 * r + q)) := by (repeat rw [ks_n (by omega)])
  have v20 : (ks (ks (ks (ks (ks (ks (ks (ks M 19 (2 * c + r) 1) 20 (2 * c + r) (nI (4 * r + q))) 21 (2 * c + r) (-1)) 22 (2 * c + r) 0) 9 (8 * c + (4 * r + q)) 0) 23 (2 * c + r) 0) 24 (2 * c + r) (nI g)) 25 (2 * c + r) 0) 20 (2 * c + r) = nI (4 * r + q) := by simp [ks]
  have v19 : (ks (ks (ks (ks (ks (ks (ks (ks M 19 (2 * c + r) 1) 20 (2 * c + r) (nI (4 * r + q))) 21 (2 * c + r) (-1)) 22 (2 * c + r) 0) 9 (8 * c + (4 * r + q)) 0) 23 (2 * c + r) 0) 24 (2 * c + r) (nI g)) 25 (2 * c + r) 0) 19 (2 * c + r) = 1 := by simp [ks]
  generalize (ks (ks (ks (ks (ks (ks (ks (ks K (b + 16 + r) 0 (nI (4 * r + q))) (b + 16 + r) 1 (-1)) (b + 16 + r) 6 0) (b + 16 + r) 7 (nI g)) (b + 16 + r) 8 0) (b + 16 + r) 4 4) (b + 16 + r) 5 0) b 13 (K b 13 &&& (jshl 1 (nI (4 * r + q)) ^^^ (-1)))) = K1 at *
  generalize (ks (ks (ks (ks (ks (ks (ks (ks M 19 (2 * c + r) 1) 20 (2 * c + r) (nI (4 * r + q))) 21 (2 * c + r) (-1)) 22 (2 * c + r) 0) 9 (8 * c + (4 * r + q)) 0) 23 (2 * c + r) 0) 24 (2 * c + r) (nI g)) 25 (2 * c + r) 0) = M1 at *
  have wC := C_walk (K := K1) hp v0
  have wM := M_walk (M := M1) hc hr hp v20
  obtain ⟨Q2, f3, f4⟩ := q_walk (p := 4 * r + q) hr (by omega) v19 Q
  have hw0 : nI wt ≤ 0 ↔ nI wt = 0 := by
    by_cases w0 : wt = 0
    · subst w0
      exact ⟨fun _ => rfl, fun _ => by decide⟩
    · exact ⟨fun e => absurd e (nI_nle (by omega) (by omega)), fun e => absurd e (nI_ne0 (by omega) (by omega))⟩
  by_cases w0 : nI wt = 0
  · refine ⟨K1, M1, ?_, ?_, Q, f1, f2⟩
    · rw [eC]
      simp only [w0, if_true]
      by_cases t1 : K1 b 14 &&& jshl 1 (nI (4 * r + q)) = 0
      · by_cases t2 : nI rc = 3 <;> simp [t1, t2]
      · simp [t1]
    · rw [eM]
      simp only [hw0.mpr w0, if_true]
  · have w1 : ¬ nI wt ≤ 0 := fun e => w0 (hw0.mp e)
    dsimp only at eC eM
    rw [v14] at eC
    rw [v10] at eM
    by_cases t1 : M 10 (8 * c + (4 * r + q)) = 0
    · have t1' : K b 14 &&& jshl 1 (nI (4 * r + q)) = 0 := g0.mpr (by simp [t1])
      by_cases t2 : nI rc = 3
      · exact ⟨_, _, by rw [eC, wC]; simp [t1', t2, w0], by rw [eM, wM]; simp [w1, t1, t2], Q2, uK_tr f1 f3, uM_tr f2 f4⟩
      · exact ⟨K1, M1, by rw [eC]; simp [t1', t2], by rw [eM]; simp [w1, t1, t2], Q, f1, f2⟩
    · have t1' : ¬ K b 14 &&& jshl 1 (nI (4 * r + q)) = 0 := fun e => by have := g0.mp e; simp [t1] at this
      exact ⟨_, _, by rw [eC, wC]; simp [t1', w0], by rw [eM, wM]; simp [w1, t1], Q2, uK_tr f1 f3, uM_tr f2 f4⟩
end Ti
