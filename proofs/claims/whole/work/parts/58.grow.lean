/-! A TICK, (d): what may happen to one ring -/
section Gr
variable {b c r : Nat} {K K' M M' : Mem}
/-- only ring r of crossing (b, c), and calls of its phases, have changed -/
def uK (b r : Nat) (K K' : Mem) : Prop := ∀ i k, i ≠ b + 16 + r → ¬ (i = b ∧ (k = 13 ∨ k = 14)) → K' i k = K i k
def uM (c r : Nat) (M M' : Mem) : Prop := ∀ row k, ¬ (19 ≤ row ∧ row ≤ 26 ∧ k = 2 * c + r) → ¬ ((row = 9 ∨ row = 10) ∧ 8 * c + 4 * r ≤ k ∧ k < 8 * c + 4 * r + 4) → M' row k = M row k
def RQ (b c : Nat) (K M : Mem) : Prop := RC b c K M ∧ K b 15 = M 7 c
theorem uK_o (hr : r < 2) (h : uK b r K K') : oK b K K' := fun i k hi => h i k (by omega) (by omega)
theorem uM_o (hr : r < 2) (h : uM c r M M') : oM c M M' := fun row k hn => h row k (by unfold slc at hn; omega) (by unfold slc at hn; omega)
theorem uK_tr {K'' : Mem} (h : uK b r K K') (h2 : uK b r K' K'') : uK b r K K'' := fun i k a d => (h2 i k a d).trans (h i k a d)
theorem uM_tr {M'' : Mem} (h : uM c r M M') (h2 : uM c r M' M'') : uM c r M M'' := fun i k a d => (h2 i k a d).trans (h i k a d)
theorem uK_rf : uK b r K K := fun _ _ _ _ => rfl
theorem uM_rf : uM c r M M := fun _ _ _ _ => rfl
theorem RQ_rg (hr : r < 2) (h : RQ b c K M) : rRing b c r K M := by
  rcases (show r = 0 ∨ r = 1 by omega) with rfl | rfl
  · exact h.1.2.2.2.2.2.2.2.2.1
  · exact h.1.2.2.2.2.2.2.2.2.2.1
theorem RC_RQ (hr : r < 2) (h : RC b c K M) (hs : ¬ M 19 (2 * c + r) = 0) : RQ b c K M := by
  refine ⟨h, h.2.2.2.2.2.2.2.1.elim id ?_⟩
  rintro ⟨-, -, e0, e1⟩
  rcases (show r = 0 ∨ r = 1 by omega) with rfl | rfl
  · exact absurd e0 hs
  · exact absurd e1 hs
theorem RQ_ring (hr : r < 2) (h : RQ b c K M) (fK : uK b r K K') (fM : uM c r M M') (hC : rCal b c K' M') (hR : rRing b c r K' M') : RQ b c K' M' ∧ oK b K K' ∧ oM c M M' := by
  have k0 : ∀ i, 1 ≤ i → i < 16 ∨ i = 18 → sK b i K K' := fun i h1 h2 k => fK (b + i) k (by omega) (by omega)
  have kb : ∀ k, k ≠ 13 → k ≠ 14 → K' b k = K b k := fun k h1 h2 => fK b k (by omega) (by omega)
  have m : ∀ row, (row < 9 ∨ 10 < row ∧ row < 19 ∨ 26 < row) → ∀ k, M' row k = M row k := fun row h k => fM row k (by omega) (by omega)
  have q : ∀ r2, r2 < 2 → rRing b c r2 K M → rRing b c r2 K' M' := fun r2 h2 hh => by
    by_cases e : r2 = r
    · subst e
      exact hR
    · exact rRing_f h2 (fun j => fK _ j (by omega) (by omega)) (fun i _ => m 8 (by omega) _) (m 6 (by omega) _) (fun row h1 h2 => fM row _ (by omega) (by omega)) hh
  obtain ⟨⟨h1, h2, h3, h4, h5, h6, h7, h8, h9, h10, h11⟩, hH⟩ := h
  have hH' : K' b 15 = M' 7 c := by rw [kb 15 (by omega) (by omega), m 7 (by omega)]; exact hH
  exact ⟨⟨⟨rTab_f (k0 2 (by omega) (by omega)) (k0 4 (by omega) (by omega)) (fun i _ => m 1 (by omega) _) (fun i _ => m 2 (by omega) _) h1,
    rUse_f (kb 10 (by omega) (by omega)) (fun i _ => m 8 (by omega) _) (fun i _ => m 2 (by omega) _) h2, hC,
    rDet_f (k0 5 (by omega) (by omega)) (k0 6 (by omega) (by omega)) (k0 7 (by omega) (by omega)) (fun i _ => m 11 (by omega) _) (fun i _ => m 12 (by omega) _) (fun i _ => m 13 (by omega) _) h4,
    rLnk_f (k0 8 (by omega) (by omega)) (fun j _ e => by rw [m 29 (by omega)]; exact e) (m 32 (by omega) _) (m 33 (by omega) _) (m 34 (by omega) _) (m 35 (by omega) _) h5,
    rInp_f (k0 10 (by omega) (by omega)) (k0 11 (by omega) (by omega)) (fun i _ => m 27 (by omega) _) (fun i _ => m 28 (by omega) _) h6,
    rSc_f (kb 9 (by omega) (by omega)) (kb 10 (by omega) (by omega)) (kb 11 (by omega) (by omega)) (kb 12 (by omega) (by omega)) (kb 15 (by omega) (by omega)) (m 3 (by omega) _) (m 4 (by omega) _) (m 5 (by omega) _) (m 6 (by omega) _) (m 7 (by omega) _) h7,
    Or.inl hH', q 0 (by omega) h9, q 1 (by omega) h10,
    rMon_f (k0 12 (by omega) (by omega) 3) (k0 14 (by omega) (by omega)) (k0 15 (by omega) (by omega)) (k0 18 (by omega) (by omega)) (m 5 (by omega) _) (fun i _ => m 8 (by omega) _) (fun i _ => m 14 (by omega) _) (fun i _ => m 16 (by omega) _) (fun i _ => m 17 (by omega) _) (fun i _ => m 18 (by omega) _) h11⟩, hH'⟩, uK_o hr fK, uM_o hr fM⟩
theorem cal_clr9 {p : Nat} (h : rCal b c K M) (hp : p < 8) (e13 : K' b 13 = K b 13 &&& (jshl 1 (nI p) ^^^ (-1))) (e14 : K' b 14 = K b 14) (m8 : sM 8 c 8 M M') (m9 : M' 9 (8 * c + p) = 0) (m9' : ∀ i, i < 8 → i ≠ p → M' 9 (8 * c + i) = M 9 (8 * c + i)) (m10 : sM 8 c 10 M M') : rCal b c K' M' := by
  refine ⟨?_, ?_, fun q hq => ?_⟩
  · rw [e13]
    refine mk_congr (mk_andn h.1 (bit_lt p hp)) (fun i hi => ?_)
    unfold one
    by_cases hip : i = p
    · subst hip
      rw [m9]
      simp
    · rw [m9' i hi hip]
      simp [hip]
  · rw [e14]
    exact mk_congr h.2.1 (fun i hi => (one_f (m10 i hi)).symm)
  · obtain ⟨a1, a2, a3, a4⟩ := h.2.2 q hq
    rw [m10 q hq, m8 q hq]
    by_cases hqp : q = p
    · subst hqp
      rw [m9]
      exact ⟨Or.inl rfl, a2, fun e => absurd e (by decide), a4⟩
    · rw [m9' q hq hqp]
      exact ⟨a1, a2, a3, a4⟩
theorem cal_clr10 {p : Nat} (h : rCal b c K M) (hp : p < 8) (e14 : K' b 14 = K b 14 &&& (jshl 1 (nI p) ^^^ (-1))) (e13 : K' b 13 = K b 13) (m8 : sM 8 c 8 M M') (m9 : M' 10 (8 * c + p) = 0) (m9' : ∀ i, i < 8 → i ≠ p → M' 10 (8 * c + i) = M 10 (8 * c + i)) (m10 : sM 8 c 9 M M') : rCal b c K' M' := by
  refine ⟨?_, ?_, fun q hq => ?_⟩
  · rw [e13]
    exact mk_congr h.1 (fun i hi => (one_f (m10 i hi)).symm)
  · rw [e14]
    refine mk_congr (mk_andn h.2.1 (bit_lt p hp)) (fun i hi => ?_)
    unfold one
    by_cases hip : i = p
    · subst hip
      rw [m9]
      simp
    · rw [m9' i hi hip]
      simp [hip]
  · obtain ⟨a1, a2, a3, a4⟩ := h.2.2 q hq
    rw [m10 q hq, m8 q hq]
    by_cases hqp : q = p
    · subst hqp
      rw [m9]
      exact ⟨a1, Or.inl rfl, a3, fun e => absurd e (by decide)⟩
    · rw [m9' q hq hqp]
      exact ⟨a1, a2, a3, a4⟩
theorem q_age (hr : r < 2) (h : RQ b c K M) : RQ b c (ks K (b + 16 + r) 5 (K (b + 16 + r) 5 + 1)) (ks M 22 (2 * c + r) (M 22 (2 * c + r) + 1)) ∧ uK b r K (ks K (b + 16 + r) 5 (K (b + 16 + r) 5 + 1)) ∧ uM c r M (ks M 22 (2 * c + r) (M 22 (2 * c + r) + 1)) := by
  have fK : uK b r K (ks K (b + 16 + r) 5 (K (b + 16 + r) 5 + 1)) := fun i k h1 h2 => by (repeat rw [ks_n (by omega)])
  have fM : uM c r M (ks M 22 (2 * c + r) (M 22 (2 * c + r) + 1)) := fun row k h1 h2 => by (repeat rw [ks_n (by omega)])
  refine ⟨(RQ_ring hr h fK fM ?_ ?_).1, fK, fM⟩
  · exact rCal_f (by (repeat rw [ks_n (by omega)]) <;> rfl) (by (repeat rw [ks_n (by omega)]) <;> rfl) (fun i _ => by (repeat rw [ks_n (by omega)]) <;> rfl) (fun i _ => by (repeat rw [ks_n (by omega)]) <;> rfl) (fun i _ => by (repeat rw [ks_n (by omega)]) <;> rfl) h.1.2.2.1
  · have tp : ∀ x, rPh c r M x → rPh c r (ks M 22 (2 * c + r) (M 22 (2 * c + r) + 1)) x := fun x => rPh_f (fun i _ => fM 8 _ (by omega) (by omega)) (fM 6 _ (by omega) (by omega)) hr
    obtain ⟨h1, h2, h3, h4, h5, h6, h7, h8, h9, h10⟩ := RQ_rg hr h
    unfold rRing
    have k4 : (ks K (b + 16 + r) 5 (K (b + 16 + r) 5 + 1)) (b + 16 + r) 4 = K (b + 16 + r) 4 := by simp [ks]
    have k0 : (ks K (b + 16 + r) 5 (K (b + 16 + r) 5 + 1)) (b + 16 + r) 0 = K (b + 16 + r) 0 := by simp [ks]
    have k5 : (ks K (b + 16 + r) 5 (K (b + 16 + r) 5 + 1)) (b + 16 + r) 5 = (K (b + 16 + r) 5 + 1) := by simp [ks]
    have k6 : (ks K (b + 16 + r) 5 (K (b + 16 + r) 5 + 1)) (b + 16 + r) 6 = K (b + 16 + r) 6 := by simp [ks]
    have k7 : (ks K (b + 16 + r) 5 (K (b + 16 + r) 5 + 1)) (b + 16 + r) 7 = K (b + 16 + r) 7 := by simp [ks]
    have k1 : (ks K (b + 16 + r) 5 (K (b + 16 + r) 5 + 1)) (b + 16 + r) 1 = K (b + 16 + r) 1 := by simp [ks]
    have k8 : (ks K (b + 16 + r) 5 (K (b + 16 + r) 5 + 1)) (b + 16 + r) 8 = K (b + 16 + r) 8 := by simp [ks]
    have k9 : (ks K (b + 16 + r) 5 (K (b + 16 + r) 5 + 1)) (b + 16 + r) 9 = K (b + 16 + r) 9 := by simp [ks]
    have m19 : (ks M 22 (2 * c + r) (M 22 (2 * c + r) + 1)) 19 (2 * c + r) = M 19 (2 * c + r) := by simp [ks]
    have m20 : (ks M 22 (2 * c + r) (M 22 (2 * c + r) + 1)) 20 (2 * c + r) = M 20 (2 * c + r) := by simp [ks]
    have m22 : (ks M 22 (2 * c + r) (M 22 (2 * c + r) + 1)) 22 (2 * c + r) = (M 22 (2 * c + r) + 1) := by simp [ks]
    have m23 : (ks M 22 (2 * c + r) (M 22 (2 * c + r) + 1)) 23 (2 * c + r) = M 23 (2 * c + r) := by simp [ks]
    have m24 : (ks M 22 (2 * c + r) (M 22 (2 * c + r) + 1)) 24 (2 * c + r) = M 24 (2 * c + r) := by simp [ks]
    have m21 : (ks M 22 (2 * c + r) (M 22 (2 * c + r) + 1)) 21 (2 * c + r) = M 21 (2 * c + r) := by simp [ks]
    have m25 : (ks M 22 (2 * c + r) (M 22 (2 * c + r) + 1)) 25 (2 * c + r) = M 25 (2 * c + r) := by simp [ks]
    have m26 : (ks M 22 (2 * c + r) (M 22 (2 * c + r) + 1)) 26 (2 * c + r) = M 26 (2 * c + r) := by simp [ks]
    rw [k4, k0, k5, k6, k7, k1, k8, k9, m19, m20, m22, m23, m24, m21, m25, m26]
    exact ⟨h1, h2, by rw [h3], h4, h5, h6, h7, fun e => ⟨tp _ (h8 e).1, (h8 e).2.1, (h8 e).2.2.imp id (tp _)⟩, h9, h10⟩
theorem q_red (hr : r < 2) (hs : ¬ M 19 (2 * c + r) = 0) (hw : M 25 (2 * c + r) = 0) (h : RQ b c K M) : RQ b c (ks (ks K (b + 16 + r) 4 1) (b + 16 + r) 5 0) (ks (ks M 19 (2 * c + r) 3) 22 (2 * c + r) 0) ∧ uK b r K (ks (ks K (b + 16 + r) 4 1) (b + 16 + r) 5 0) ∧ uM c r M (ks (ks M 19 (2 * c + r) 3) 22 (2 * c + r) 0) := by
  have fK : uK b r K (ks (ks K (b + 16 + r) 4 1) (b + 16 + r) 5 0) := fun i k h1 h2 => by (repeat rw [ks_n (by omega)])
  have fM : uM c r M (ks (ks M 19 (2 * c + r) 3) 22 (2 * c + r) 0) := fun row k h1 h2 => by (repeat rw [ks_n (by omega)])
  refine ⟨(RQ_ring hr h fK fM ?_ ?_).1, fK, fM⟩
  · exact rCal_f (by (repeat rw [ks_n (by omega)]) <;> rfl) (by (repeat rw [ks_n (by omega)]) <;> rfl) (fun i _ => by (repeat rw [ks_n (by omega)]) <;> rfl) (fun i _ => by (repeat rw [ks_n (by omega)]) <;> rfl) (fun i _ => by (repeat rw [ks_n (by omega)]) <;> rfl) h.1.2.2.1
  · have tp : ∀ x, rPh c r M x → rPh c r (ks (ks M 19 (2 * c + r) 3) 22 (2 * c + r) 0) x := fun x => rPh_f (fun i _ => fM 8 _ (by omega) (by omega)) (fM 6 _ (by omega) (by omega)) hr
    obtain ⟨h1, h2, h3, h4, h5, h6, h7, h8, h9, h10⟩ := RQ_rg hr h
    unfold rRing
    have k4 : (ks (ks K (b + 16 + r) 4 1) (b + 16 + r) 5 0) (b + 16 + r) 4 = 1 := by simp [ks]
    have k0 : (ks (ks K (b + 16 + r) 4 1) (b + 16 + r) 5 0) (b + 16 + r) 0 = K (b + 16 + r) 0 := by simp [ks]
    have k5 : (ks (ks K (b + 16 + r) 4 1) (b + 16 + r) 5 0) (b + 16 + r) 5 = 0 := by simp [ks]
    have k6 : (ks (ks K (b + 16 + r) 4 1) (b + 16 + r) 5 0) (b + 16 + r) 6 = K (b + 16 + r) 6 := by simp [ks]
    have k7 : (ks (ks K (b + 16 + r) 4 1) (b + 16 + r) 5 0) (b + 16 + r) 7 = K (b + 16 + r) 7 := by simp [ks]
    have k1 : (ks (ks K (b + 16 + r) 4 1) (b + 16 + r) 5 0) (b + 16 + r) 1 = K (b + 16 + r) 1 := by simp [ks]
    have k8 : (ks (ks K (b + 16 + r) 4 1) (b + 16 + r) 5 0) (b + 16 + r) 8 = K (b + 16 + r) 8 := by simp [ks]
    have k9 : (ks (ks K (b + 16 + r) 4 1) (b + 16 + r) 5 0) (b + 16 + r) 9 = K (b + 16 + r) 9 := by simp [ks]
    have m19 : (ks (ks M 19 (2 * c + r) 3) 22 (2 * c + r) 0) 19 (2 * c + r) = 3 := by simp [ks]
    have m20 : (ks (ks M 19 (2 * c + r) 3) 22 (2 * c + r) 0) 20 (2 * c + r) = M 20 (2 * c + r) := by simp [ks]
    have m22 : (ks (ks M 19 (2 * c + r) 3) 22 (2 * c + r) 0) 22 (2 * c + r) = 0 := by simp [ks]
    have m23 : (ks (ks M 19 (2 * c + r) 3) 22 (2 * c + r) 0) 23 (2 * c + r) = M 23 (2 * c + r) := by simp [ks]
    have m24 : (ks (ks M 19 (2 * c + r) 3) 22 (2 * c + r) 0) 24 (2 * c + r) = M 24 (2 * c + r) := by simp [ks]
    have m21 : (ks (ks M 19 (2 * c + r) 3) 22 (2 * c + r) 0) 21 (2 * c + r) = M 21 (2 * c + r) := by simp [ks]
    have m25 : (ks (ks M 19 (2 * c + r) 3) 22 (2 * c + r) 0) 25 (2 * c + r) = M 25 (2 * c + r) := by simp [ks]
    have m26 : (ks (ks M 19 (2 * c + r) 3) 22 (2 * c + r) 0) 26 (2 * c + r) = M 26 (2 * c + r) := by simp [ks]
    rw [k4, k0, k5, k6, k7, k1, k8, k9, m19, m20, m22, m23, m24, m21, m25, m26]
    exact ⟨⟨3, by omega, rfl, rfl⟩, h2, rfl, h4, h5, h6, fun e => absurd e (by decide), fun _ => ⟨tp _ (h8 hs).1, (h8 hs).2.1, (h8 hs).2.2.imp id (tp _)⟩, h9, fun e => absurd hw e⟩
theorem q_stop (hr : r < 2) (h : RQ b c K M) : RQ b c (ks (ks (ks (ks K (b + 16 + r) 0 (-1)) (b + 16 + r) 1 (-1)) (b + 16 + r) 4 0) (b + 16 + r) 8 0) (ks (ks (ks (ks M 19 (2 * c + r) 0) 20 (2 * c + r) (-1)) 21 (2 * c + r) (-1)) 25 (2 * c + r) 0) ∧ uK b r K (ks (ks (ks (ks K (b + 16 + r) 0 (-1)) (b + 16 + r) 1 (-1)) (b + 16 + r) 4 0) (b + 16 + r) 8 0) ∧ uM c r M (ks (ks (ks (ks M 19 (2 * c + r) 0) 20 (2 * c + r) (-1)) 21 (2 * c + r) (-1)) 25 (2 * c + r) 0) := by
  have fK : uK b r K (ks (ks (ks (ks K (b + 16 + r) 0 (-1)) (b + 16 + r) 1 (-1)) (b + 16 + r) 4 0) (b + 16 + r) 8 0) := fun i k h1 h2 => by (repeat rw [ks_n (by omega)])
  have fM : uM c r M (ks (ks (ks (ks M 19 (2 * c + r) 0) 20 (2 * c + r) (-1)) 21 (2 * c + r) (-1)) 25 (2 * c + r) 0) := fun row k h1 h2 => by (repeat rw [ks_n (by omega)])
  refine ⟨(RQ_ring hr h fK fM ?_ ?_).1, fK, fM⟩
  · exact rCal_f (by (repeat rw [ks_n (by omega)]) <;> rfl) (by (repeat rw [ks_n (by omega)]) <;> rfl) (fun i _ => by (repeat rw [ks_n (by omega)]) <;> rfl) (fun i _ => by (repeat rw [ks_n (by omega)]) <;> rfl) (fun i _ => by (repeat rw [ks_n (by omega)]) <;> rfl) h.1.2.2.1
  · have tp : ∀ x, rPh c r M x → rPh c r (ks (ks (ks (ks M 19 (2 * c + r) 0) 20 (2 * c + r) (-1)) 21 (2 * c + r) (-1)) 25 (2 * c + r) 0) x := fun x => rPh_f (fun i _ => fM 8 _ (by omega) (by omega)) (fM 6 _ (by omega) (by omega)) hr
    obtain ⟨h1, h2, h3, h4, h5, h6, h7, h8, h9, h10⟩ := RQ_rg hr h
    unfold rRing
    have k4 : (ks (ks (ks (ks K (b + 16 + r) 0 (-1)) (b + 16 + r) 1 (-1)) (b + 16 + r) 4 0) (b + 16 + r) 8 0) (b + 16 + r) 4 = 0 := by simp [ks]
    have k0 : (ks (ks (ks (ks K (b + 16 + r) 0 (-1)) (b + 16 + r) 1 (-1)) (b + 16 + r) 4 0) (b + 16 + r) 8 0) (b + 16 + r) 0 = (-1) := by simp [ks]
    have k5 : (ks (ks (ks (ks K (b + 16 + r) 0 (-1)) (b + 16 + r) 1 (-1)) (b + 16 + r) 4 0) (b + 16 + r) 8 0) (b + 16 + r) 5 = K (b + 16 + r) 5 := by simp [ks]
    have k6 : (ks (ks (ks (ks K (b + 16 + r) 0 (-1)) (b + 16 + r) 1 (-1)) (b + 16 + r) 4 0) (b + 16 + r) 8 0) (b + 16 + r) 6 = K (b + 16 + r) 6 := by simp [ks]
    have k7 : (ks (ks (ks (ks K (b + 16 + r) 0 (-1)) (b + 16 + r) 1 (-1)) (b + 16 + r) 4 0) (b + 16 + r) 8 0) (b + 16 + r) 7 = K (b + 16 + r) 7 := by simp [ks]
    have k1 : (ks (ks (ks (ks K (b + 16 + r) 0 (-1)) (b + 16 + r) 1 (-1)) (b + 16 + r) 4 0) (b + 16 + r) 8 0) (b + 16 + r) 1 = (-1) := by simp [ks]
    have k8 : (ks (ks (ks (ks K (b + 16 + r) 0 (-1)) (b + 16 + r) 1 (-1)) (b + 16 + r) 4 0) (b + 16 + r) 8 0) (b + 16 + r) 8 = 0 := by simp [ks]
    have k9 : (ks (ks (ks (ks K (b + 16 + r) 0 (-1)) (b + 16 + r) 1 (-1)) (b + 16 + r) 4 0) (b + 16 + r) 8 0) (b + 16 + r) 9 = K (b + 16 + r) 9 := by simp [ks]
    have m19 : (ks (ks (ks (ks M 19 (2 * c + r) 0) 20 (2 * c + r) (-1)) 21 (2 * c + r) (-1)) 25 (2 * c + r) 0) 19 (2 * c + r) = 0 := by simp [ks]
    have m20 : (ks (ks (ks (ks M 19 (2 * c + r) 0) 20 (2 * c + r) (-1)) 21 (2 * c + r) (-1)) 25 (2 * c + r) 0) 20 (2 * c + r) = (-1) := by simp [ks]
    have m22 : (ks (ks (ks (ks M 19 (2 * c + r) 0) 20 (2 * c + r) (-1)) 21 (2 * c + r) (-1)) 25 (2 * c + r) 0) 22 (2 * c + r) = M 22 (2 * c + r) := by simp [ks]
    have m23 : (ks (ks (ks (ks M 19 (2 * c + r) 0) 20 (2 * c + r) (-1)) 21 (2 * c + r) (-1)) 25 (2 * c + r) 0) 23 (2 * c + r) = M 23 (2 * c + r) := by simp [ks]
    have m24 : (ks (ks (ks (ks M 19 (2 * c + r) 0) 20 (2 * c + r) (-1)) 21 (2 * c + r) (-1)) 25 (2 * c + r) 0) 24 (2 * c + r) = M 24 (2 * c + r) := by simp [ks]
    have m21 : (ks (ks (ks (ks M 19 (2 * c + r) 0) 20 (2 * c + r) (-1)) 21 (2 * c + r) (-1)) 25 (2 * c + r) 0) 21 (2 * c + r) = (-1) := by simp [ks]
    have m25 : (ks (ks (ks (ks M 19 (2 * c + r) 0) 20 (2 * c + r) (-1)) 21 (2 * c + r) (-1)) 25 (2 * c + r) 0) 25 (2 * c + r) = 0 := by simp [ks]
    have m26 : (ks (ks (ks (ks M 19 (2 * c + r) 0) 20 (2 * c + r) (-1)) 21 (2 * c + r) (-1)) 25 (2 * c + r) 0) 26 (2 * c + r) = M 26 (2 * c + r) := by simp [ks]
    rw [k4, k0, k5, k6, k7, k1, k8, k9, m19, m20, m22, m23, m24, m21, m25, m26]
    exact ⟨⟨0, by omega, rfl, rfl⟩, rfl, h3, h4, h5, h6, fun _ => rfl, fun e => absurd rfl e, ⟨0, by omega, rfl, rfl⟩, fun e => absurd rfl e⟩
theorem q_yellow {x : Int32} (hr : r < 2) (hs : ¬ M 19 (2 * c + r) = 0) (hw : M 25 (2 * c + r) = 0) (hx : x = -1 ∨ rPh c r M x) (h : RQ b c K M) : RQ b c (ks (ks (ks K (b + 16 + r) 1 x) (b + 16 + r) 4 2) (b + 16 + r) 5 0) (ks (ks (ks M 19 (2 * c + r) 2) 22 (2 * c + r) 0) 21 (2 * c + r) x) ∧ uK b r K (ks (ks (ks K (b + 16 + r) 1 x) (b + 16 + r) 4 2) (b + 16 + r) 5 0) ∧ uM c r M (ks (ks (ks M 19 (2 * c + r) 2) 22 (2 * c + r) 0) 21 (2 * c + r) x) := by
  have fK : uK b r K (ks (ks (ks K (b + 16 + r) 1 x) (b + 16 + r) 4 2) (b + 16 + r) 5 0) := fun i k h1 h2 => by (repeat rw [ks_n (by omega)])
  have fM : uM c r M (ks (ks (ks M 19 (2 * c + r) 2) 22 (2 * c + r) 0) 21 (2 * c + r) x) := fun row k h1 h2 => by (repeat rw [ks_n (by omega)])
  refine ⟨(RQ_ring hr h fK fM ?_ ?_).1, fK, fM⟩
  · exact rCal_f (by (repeat rw [ks_n (by omega)]) <;> rfl) (by (repeat rw [ks_n (by omega)]) <;> rfl) (fun i _ => by (repeat rw [ks_n (by omega)]) <;> rfl) (fun i _ => by (repeat rw [ks_n (by omega)]) <;> rfl) (fun i _ => by (repeat rw [ks_n (by omega)]) <;> rfl) h.1.2.2.1
  · have tp : ∀ x, rPh c r M x → rPh c r (ks (ks (ks M 19 (2 * c + r) 2) 22 (2 * c + r) 0) 21 (2 * c + r) x) x := fun x => rPh_f (fun i _ => fM 8 _ (by omega) (by omega)) (fM 6 _ (by omega) (by omega)) hr
    obtain ⟨h1, h2, h3, h4, h5, h6, h7, h8, h9, h10⟩ := RQ_rg hr h
    unfold rRing
    have k4 : (ks (ks (ks K (b + 16 + r) 1 x) (b + 16 + r) 4 2) (b + 16 + r) 5 0) (b + 16 + r) 4 = 2 := by simp [ks]
    have k0 : (ks (ks (ks K (b + 16 + r) 1 x) (b + 16 + r) 4 2) (b + 16 + r) 5 0) (b + 16 + r) 0 = K (b + 16 + r) 0 := by simp [ks]
    have k5 : (ks (ks (ks K (b + 16 + r) 1 x) (b + 16 + r) 4 2) (b + 16 + r) 5 0) (b + 16 + r) 5 = 0 := by simp [ks]
    have k6 : (ks (ks (ks K (b + 16 + r) 1 x) (b + 16 + r) 4 2) (b + 16 + r) 5 0) (b + 16 + r) 6 = K (b + 16 + r) 6 := by simp [ks]
    have k7 : (ks (ks (ks K (b + 16 + r) 1 x) (b + 16 + r) 4 2) (b + 16 + r) 5 0) (b + 16 + r) 7 = K (b + 16 + r) 7 := by simp [ks]
    have k1 : (ks (ks (ks K (b + 16 + r) 1 x) (b + 16 + r) 4 2) (b + 16 + r) 5 0) (b + 16 + r) 1 = x := by simp [ks]
    have k8 : (ks (ks (ks K (b + 16 + r) 1 x) (b + 16 + r) 4 2) (b + 16 + r) 5 0) (b + 16 + r) 8 = K (b + 16 + r) 8 := by simp [ks]
    have k9 : (ks (ks (ks K (b + 16 + r) 1 x) (b + 16 + r) 4 2) (b + 16 + r) 5 0) (b + 16 + r) 9 = K (b + 16 + r) 9 := by simp [ks]
    have m19 : (ks (ks (ks M 19 (2 * c + r) 2) 22 (2 * c + r) 0) 21 (2 * c + r) x) 19 (2 * c + r) = 2 := by simp [ks]
    have m20 : (ks (ks (ks M 19 (2 * c + r) 2) 22 (2 * c + r) 0) 21 (2 * c + r) x) 20 (2 * c + r) = M 20 (2 * c + r) := by simp [ks]
    have m22 : (ks (ks (ks M 19 (2 * c + r) 2) 22 (2 * c + r) 0) 21 (2 * c + r) x) 22 (2 * c + r) = 0 := by simp [ks]
    have m23 : (ks (ks (ks M 19 (2 * c + r) 2) 22 (2 * c + r) 0) 21 (2 * c + r) x) 23 (2 * c + r) = M 23 (2 * c + r) := by simp [ks]
    have m24 : (ks (ks (ks M 19 (2 * c + r) 2) 22 (2 * c + r) 0) 21 (2 * c + r) x) 24 (2 * c + r) = M 24 (2 * c + r) := by simp [ks]
    have m21 : (ks (ks (ks M 19 (2 * c + r) 2) 22 (2 * c + r) 0) 21 (2 * c + r) x) 21 (2 * c + r) = x := by simp [ks]
    have m25 : (ks (ks (ks M 19 (2 * c + r) 2) 22 (2 * c + r) 0) 21 (2 * c + r) x) 25 (2 * c + r) = M 25 (2 * c + r) := by simp [ks]
    have m26 : (ks (ks (ks M 19 (2 * c + r) 2) 22 (2 * c + r) 0) 21 (2 * c + r) x) 26 (2 * c + r) = M 26 (2 * c + r) := by simp [ks]
    rw [k4, k0, k5, k6, k7, k1, k8, k9, m19, m20, m22, m23, m24, m21, m25, m26]
    exact ⟨⟨2, by omega, rfl, rfl⟩, h2, rfl, h4, h5, h6, fun e => absurd e (by decide), fun _ => ⟨tp _ (h8 hs).1, rfl, hx.imp id (tp _)⟩, h9, fun e => absurd hw e⟩
theorem q_walk {p : Nat} (hr : r < 2) (hp : p / 4 = r) (hs : M 19 (2 * c + r) = 1) (h : RQ b c K M) : RQ b c (ks (ks (ks K (b + 16 + r) 8 4) (b + 16 + r) 9 0) b 14 (K b 14 &&& (jshl 1 (nI p) ^^^ (-1)))) (ks (ks (ks M 25 (2 * c + r) 1) 26 (2 * c + r) 0) 10 (8 * c + p) 0) ∧ uK b r K (ks (ks (ks K (b + 16 + r) 8 4) (b + 16 + r) 9 0) b 14 (K b 14 &&& (jshl 1 (nI p) ^^^ (-1)))) ∧ uM c r M (ks (ks (ks M 25 (2 * c + r) 1) 26 (2 * c + r) 0) 10 (8 * c + p) 0) := by
  have fK : uK b r K (ks (ks (ks K (b + 16 + r) 8 4) (b + 16 + r) 9 0) b 14 (K b 14 &&& (jshl 1 (nI p) ^^^ (-1)))) := fun i k h1 h2 => by (repeat rw [ks_n (by omega)])
  have fM : uM c r M (ks (ks (ks M 25 (2 * c + r) 1) 26 (2 * c + r) 0) 10 (8 * c + p) 0) := fun row k h1 h2 => by (repeat rw [ks_n (by omega)])
  refine ⟨(RQ_ring hr h fK fM ?_ ?_).1, fK, fM⟩
  · exact cal_clr10 (p := p) h.1.2.2.1 (by omega) (by rw [ks_s]) (by (repeat rw [ks_n (by omega)]) <;> rfl) (fun i _ => by (repeat rw [ks_n (by omega)]) <;> rfl) (by rw [ks_s]) (fun i _ hn => by (repeat rw [ks_n (by omega)]) <;> rfl) (fun i _ => by (repeat rw [ks_n (by omega)]) <;> rfl)
  · have tp : ∀ x, rPh c r M x → rPh c r (ks (ks (ks M 25 (2 * c + r) 1) 26 (2 * c + r) 0) 10 (8 * c + p) 0) x := fun x => rPh_f (fun i _ => fM 8 _ (by omega) (by omega)) (fM 6 _ (by omega) (by omega)) hr
    obtain ⟨h1, h2, h3, h4, h5, h6, h7, h8, h9, h10⟩ := RQ_rg hr h
    unfold rRing
    have k4 : (ks (ks (ks K (b + 16 + r) 8 4) (b + 16 + r) 9 0) b 14 (K b 14 &&& (jshl 1 (nI p) ^^^ (-1)))) (b + 16 + r) 4 = K (b + 16 + r) 4 := by simp [ks]
    have k0 : (ks (ks (ks K (b + 16 + r) 8 4) (b + 16 + r) 9 0) b 14 (K b 14 &&& (jshl 1 (nI p) ^^^ (-1)))) (b + 16 + r) 0 = K (b + 16 + r) 0 := by simp [ks]
    have k5 : (ks (ks (ks K (b + 16 + r) 8 4) (b + 16 + r) 9 0) b 14 (K b 14 &&& (jshl 1 (nI p) ^^^ (-1)))) (b + 16 + r) 5 = K (b + 16 + r) 5 := by simp [ks]
    have k6 : (ks (ks (ks K (b + 16 + r) 8 4) (b + 16 + r) 9 0) b 14 (K b 14 &&& (jshl 1 (nI p) ^^^ (-1)))) (b + 16 + r) 6 = K (b + 16 + r) 6 := by simp [ks]
    have k7 : (ks (ks (ks K (b + 16 + r) 8 4) (b + 16 + r) 9 0) b 14 (K b 14 &&& (jshl 1 (nI p) ^^^ (-1)))) (b + 16 + r) 7 = K (b + 16 + r) 7 := by simp [ks]
    have k1 : (ks (ks (ks K (b + 16 + r) 8 4) (b + 16 + r) 9 0) b 14 (K b 14 &&& (jshl 1 (nI p) ^^^ (-1)))) (b + 16 + r) 1 = K (b + 16 + r) 1 := by simp [ks]
    have k8 : (ks (ks (ks K (b + 16 + r) 8 4) (b + 16 + r) 9 0) b 14 (K b 14 &&& (jshl 1 (nI p) ^^^ (-1)))) (b + 16 + r) 8 = 4 := by simp [ks]
    have k9 : (ks (ks (ks K (b + 16 + r) 8 4) (b + 16 + r) 9 0) b 14 (K b 14 &&& (jshl 1 (nI p) ^^^ (-1)))) (b + 16 + r) 9 = 0 := by simp [ks]
    have m19 : (ks (ks (ks M 25 (2 * c + r) 1) 26 (2 * c + r) 0) 10 (8 * c + p) 0) 19 (2 * c + r) = M 19 (2 * c + r) := by simp [ks]
    have m20 : (ks (ks (ks M 25 (2 * c + r) 1) 26 (2 * c + r) 0) 10 (8 * c + p) 0) 20 (2 * c + r) = M 20 (2 * c + r) := by simp [ks]
    have m22 : (ks (ks (ks M 25 (2 * c + r) 1) 26 (2 * c + r) 0) 10 (8 * c + p) 0) 22 (2 * c + r) = M 22 (2 * c + r) := by simp [ks]
    have m23 : (ks (ks (ks M 25 (2 * c + r) 1) 26 (2 * c + r) 0) 10 (8 * c + p) 0) 23 (2 * c + r) = M 23 (2 * c + r) := by simp [ks]
    have m24 : (ks (ks (ks M 25 (2 * c + r) 1) 26 (2 * c + r) 0) 10 (8 * c + p) 0) 24 (2 * c + r) = M 24 (2 * c + r) := by simp [ks]
    have m21 : (ks (ks (ks M 25 (2 * c + r) 1) 26 (2 * c + r) 0) 10 (8 * c + p) 0) 21 (2 * c + r) = M 21 (2 * c + r) := by simp [ks]
    have m25 : (ks (ks (ks M 25 (2 * c + r) 1) 26 (2 * c + r) 0) 10 (8 * c + p) 0) 25 (2 * c + r) = 1 := by simp [ks]
    have m26 : (ks (ks (ks M 25 (2 * c + r) 1) 26 (2 * c + r) 0) 10 (8 * c + p) 0) 26 (2 * c + r) = 0 := by simp [ks]
    rw [k4, k0, k5, k6, k7, k1, k8, k9, m19, m20, m22, m23, m24, m21, m25, m26]
    exact ⟨h1, h2, h3, h4, h5, h6, h7, fun e => ⟨tp _ (h8 e).1, (h8 e).2.1, (h8 e).2.2.imp id (tp _)⟩, ⟨1, by omega, rfl, rfl⟩, fun _ => ⟨rfl, hs⟩⟩
theorem q_clear (hr : r < 2) (hs : M 19 (2 * c + r) = 1) (h : RQ b c K M) : RQ b c (ks (ks K (b + 16 + r) 8 8) (b + 16 + r) 9 0) (ks (ks M 25 (2 * c + r) 2) 26 (2 * c + r) 0) ∧ uK b r K (ks (ks K (b + 16 + r) 8 8) (b + 16 + r) 9 0) ∧ uM c r M (ks (ks M 25 (2 * c + r) 2) 26 (2 * c + r) 0) := by
  have fK : uK b r K (ks (ks K (b + 16 + r) 8 8) (b + 16 + r) 9 0) := fun i k h1 h2 => by (repeat rw [ks_n (by omega)])
  have fM : uM c r M (ks (ks M 25 (2 * c + r) 2) 26 (2 * c + r) 0) := fun row k h1 h2 => by (repeat rw [ks_n (by omega)])
  refine ⟨(RQ_ring hr h fK fM ?_ ?_).1, fK, fM⟩
  · exact rCal_f (by (repeat rw [ks_n (by omega)]) <;> rfl) (by (repeat rw [ks_n (by omega)]) <;> rfl) (fun i _ => by (repeat rw [ks_n (by omega)]) <;> rfl) (fun i _ => by (repeat rw [ks_n (by omega)]) <;> rfl) (fun i _ => by (repeat rw [ks_n (by omega)]) <;> rfl) h.1.2.2.1
  · have tp : ∀ x, rPh c r M x → rPh c r (ks (ks M 25 (2 * c + r) 2) 26 (2 * c + r) 0) x := fun x => rPh_f (fun i _ => fM 8 _ (by omega) (by omega)) (fM 6 _ (by omega) (by omega)) hr
    obtain ⟨h1, h2, h3, h4, h5, h6, h7, h8, h9, h10⟩ := RQ_rg hr h
    unfold rRing
    have k4 : (ks (ks K (b + 16 + r) 8 8) (b + 16 + r) 9 0) (b + 16 + r) 4 = K (b + 16 + r) 4 := by simp [ks]
    have k0 : (ks (ks K (b + 16 + r) 8 8) (b + 16 + r) 9 0) (b + 16 + r) 0 = K (b + 16 + r) 0 := by simp [ks]
    have k5 : (ks (ks K (b + 16 + r) 8 8) (b + 16 + r) 9 0) (b + 16 + r) 5 = K (b + 16 + r) 5 := by simp [ks]
    have k6 : (ks (ks K (b + 16 + r) 8 8) (b + 16 + r) 9 0) (b + 16 + r) 6 = K (b + 16 + r) 6 := by simp [ks]
    have k7 : (ks (ks K (b + 16 + r) 8 8) (b + 16 + r) 9 0) (b + 16 + r) 7 = K (b + 16 + r) 7 := by simp [ks]
    have k1 : (ks (ks K (b + 16 + r) 8 8) (b + 16 + r) 9 0) (b + 16 + r) 1 = K (b + 16 + r) 1 := by simp [ks]
    have k8 : (ks (ks K (b + 16 + r) 8 8) (b + 16 + r) 9 0) (b + 16 + r) 8 = 8 := by simp [ks]
    have k9 : (ks (ks K (b + 16 + r) 8 8) (b + 16 + r) 9 0) (b + 16 + r) 9 = 0 := by simp [ks]
    have m19 : (ks (ks M 25 (2 * c + r) 2) 26 (2 * c + r) 0) 19 (2 * c + r) = M 19 (2 * c + r) := by simp [ks]
    have m20 : (ks (ks M 25 (2 * c + r) 2) 26 (2 * c + r) 0) 20 (2 * c + r) = M 20 (2 * c + r) := by simp [ks]
    have m22 : (ks (ks M 25 (2 * c + r) 2) 26 (2 * c + r) 0) 22 (2 * c + r) = M 22 (2 * c + r) := by simp [ks]
    have m23 : (ks (ks M 25 (2 * c + r) 2) 26 (2 * c + r) 0) 23 (2 * c + r) = M 23 (2 * c + r) := by simp [ks]
    have m24 : (ks (ks M 25 (2 * c + r) 2) 26 (2 * c + r) 0) 24 (2 * c + r) = M 24 (2 * c + r) := by simp [ks]
    have m21 : (ks (ks M 25 (2 * c + r) 2) 26 (2 * c + r) 0) 21 (2 * c + r) = M 21 (2 * c + r) := by simp [ks]
    have m25 : (ks (ks M 25 (2 * c + r) 2) 26 (2 * c + r) 0) 25 (2 * c + r) = 2 := by simp [ks]
    have m26 : (ks (ks M 25 (2 * c + r) 2) 26 (2 * c + r) 0) 26 (2 * c + r) = 0 := by simp [ks]
    rw [k4, k0, k5, k6, k7, k1, k8, k9, m19, m20, m22, m23, m24, m21, m25, m26]
    exact ⟨h1, h2, h3, h4, h5, h6, h7, fun e => ⟨tp _ (h8 e).1, (h8 e).2.1, (h8 e).2.2.imp id (tp _)⟩, ⟨2, by omega, rfl, rfl⟩, fun _ => ⟨rfl, hs⟩⟩
theorem q_pace (hr : r < 2) (hw : ¬ M 25 (2 * c + r) = 0) (h : RQ b c K M) : RQ b c (ks K (b + 16 + r) 9 (K (b + 16 + r) 9 + 1)) (ks M 26 (2 * c + r) (M 26 (2 * c + r) + 1)) ∧ uK b r K (ks K (b + 16 + r) 9 (K (b + 16 + r) 9 + 1)) ∧ uM c r M (ks M 26 (2 * c + r) (M 26 (2 * c + r) + 1)) := by
  have fK : uK b r K (ks K (b + 16 + r) 9 (K (b + 16 + r) 9 + 1)) := fun i k h1 h2 => by (repeat rw [ks_n (by omega)])
  have fM : uM c r M (ks M 26 (2 * c + r) (M 26 (2 * c + r) + 1)) := fun row k h1 h2 => by (repeat rw [ks_n (by omega)])
  refine ⟨(RQ_ring hr h fK fM ?_ ?_).1, fK, fM⟩
  · exact rCal_f (by (repeat rw [ks_n (by omega)]) <;> rfl) (by (repeat rw [ks_n (by omega)]) <;> rfl) (fun i _ => by (repeat rw [ks_n (by omega)]) <;> rfl) (fun i _ => by (repeat rw [ks_n (by omega)]) <;> rfl) (fun i _ => by (repeat rw [ks_n (by omega)]) <;> rfl) h.1.2.2.1
  · have tp : ∀ x, rPh c r M x → rPh c r (ks M 26 (2 * c + r) (M 26 (2 * c + r) + 1)) x := fun x => rPh_f (fun i _ => fM 8 _ (by omega) (by omega)) (fM 6 _ (by omega) (by omega)) hr
    obtain ⟨h1, h2, h3, h4, h5, h6, h7, h8, h9, h10⟩ := RQ_rg hr h
    unfold rRing
    have k4 : (ks K (b + 16 + r) 9 (K (b + 16 + r) 9 + 1)) (b + 16 + r) 4 = K (b + 16 + r) 4 := by simp [ks]
    have k0 : (ks K (b + 16 + r) 9 (K (b + 16 + r) 9 + 1)) (b + 16 + r) 0 = K (b + 16 + r) 0 := by simp [ks]
    have k5 : (ks K (b + 16 + r) 9 (K (b + 16 + r) 9 + 1)) (b + 16 + r) 5 = K (b + 16 + r) 5 := by simp [ks]
    have k6 : (ks K (b + 16 + r) 9 (K (b + 16 + r) 9 + 1)) (b + 16 + r) 6 = K (b + 16 + r) 6 := by simp [ks]
    have k7 : (ks K (b + 16 + r) 9 (K (b + 16 + r) 9 + 1)) (b + 16 + r) 7 = K (b + 16 + r) 7 := by simp [ks]
    have k1 : (ks K (b + 16 + r) 9 (K (b + 16 + r) 9 + 1)) (b + 16 + r) 1 = K (b + 16 + r) 1 := by simp [ks]
    have k8 : (ks K (b + 16 + r) 9 (K (b + 16 + r) 9 + 1)) (b + 16 + r) 8 = K (b + 16 + r) 8 := by simp [ks]
    have k9 : (ks K (b + 16 + r) 9 (K (b + 16 + r) 9 + 1)) (b + 16 + r) 9 = (K (b + 16 + r) 9 + 1) := by simp [ks]
    have m19 : (ks M 26 (2 * c + r) (M 26 (2 * c + r) + 1)) 19 (2 * c + r) = M 19 (2 * c + r) := by simp [ks]
    have m20 : (ks M 26 (2 * c + r) (M 26 (2 * c + r) + 1)) 20 (2 * c + r) = M 20 (2 * c + r) := by simp [ks]
    have m22 : (ks M 26 (2 * c + r) (M 26 (2 * c + r) + 1)) 22 (2 * c + r) = M 22 (2 * c + r) := by simp [ks]
    have m23 : (ks M 26 (2 * c + r) (M 26 (2 * c + r) + 1)) 23 (2 * c + r) = M 23 (2 * c + r) := by simp [ks]
    have m24 : (ks M 26 (2 * c + r) (M 26 (2 * c + r) + 1)) 24 (2 * c + r) = M 24 (2 * c + r) := by simp [ks]
    have m21 : (ks M 26 (2 * c + r) (M 26 (2 * c + r) + 1)) 21 (2 * c + r) = M 21 (2 * c + r) := by simp [ks]
    have m25 : (ks M 26 (2 * c + r) (M 26 (2 * c + r) + 1)) 25 (2 * c + r) = M 25 (2 * c + r) := by simp [ks]
    have m26 : (ks M 26 (2 * c + r) (M 26 (2 * c + r) + 1)) 26 (2 * c + r) = (M 26 (2 * c + r) + 1) := by simp [ks]
    rw [k4, k0, k5, k6, k7, k1, k8, k9, m19, m20, m22, m23, m24, m21, m25, m26]
    exact ⟨h1, h2, h3, h4, h5, h6, h7, fun e => ⟨tp _ (h8 e).1, (h8 e).2.1, (h8 e).2.2.imp id (tp _)⟩, h9, fun e => ⟨by rw [(h10 hw).1], (h10 e).2⟩⟩
theorem q_scr9 {x : Int32} (hr : r < 2) (hw : M 25 (2 * c + r) = 0) (h : RQ b c K M) : RQ b c (ks K (b + 16 + r) 9 x) M ∧ uK b r K (ks K (b + 16 + r) 9 x) ∧ uM c r M M := by
  have fK : uK b r K (ks K (b + 16 + r) 9 x) := fun i k h1 h2 => by (repeat rw [ks_n (by omega)])
  have fM : uM c r M M := fun _ _ _ _ => rfl
  refine ⟨(RQ_ring hr h fK fM ?_ ?_).1, fK, fM⟩
  · exact rCal_f (by (repeat rw [ks_n (by omega)]) <;> rfl) (by (repeat rw [ks_n (by omega)]) <;> rfl) (fun i _ => by (repeat rw [ks_n (by omega)]) <;> rfl) (fun i _ => by (repeat rw [ks_n (by omega)]) <;> rfl) (fun i _ => by (repeat rw [ks_n (by omega)]) <;> rfl) h.1.2.2.1
  · have tp : ∀ x, rPh c r M x → rPh c r M x := fun x => rPh_f (fun i _ => fM 8 _ (by omega) (by omega)) (fM 6 _ (by omega) (by omega)) hr
    obtain ⟨h1, h2, h3, h4, h5, h6, h7, h8, h9, h10⟩ := RQ_rg hr h
    unfold rRing
    have k4 : (ks K (b + 16 + r) 9 x) (b + 16 + r) 4 = K (b + 16 + r) 4 := by simp [ks]
    have k0 : (ks K (b + 16 + r) 9 x) (b + 16 + r) 0 = K (b + 16 + r) 0 := by simp [ks]
    have k5 : (ks K (b + 16 + r) 9 x) (b + 16 + r) 5 = K (b + 16 + r) 5 := by simp [ks]
    have k6 : (ks K (b + 16 + r) 9 x) (b + 16 + r) 6 = K (b + 16 + r) 6 := by simp [ks]
    have k7 : (ks K (b + 16 + r) 9 x) (b + 16 + r) 7 = K (b + 16 + r) 7 := by simp [ks]
    have k1 : (ks K (b + 16 + r) 9 x) (b + 16 + r) 1 = K (b + 16 + r) 1 := by simp [ks]
    have k8 : (ks K (b + 16 + r) 9 x) (b + 16 + r) 8 = K (b + 16 + r) 8 := by simp [ks]
    have k9 : (ks K (b + 16 + r) 9 x) (b + 16 + r) 9 = x := by simp [ks]
    rw [k4, k0, k5, k6, k7, k1, k8, k9]
    exact ⟨h1, h2, h3, h4, h5, h6, h7, fun e => ⟨tp _ (h8 e).1, (h8 e).2.1, (h8 e).2.2.imp id (tp _)⟩, h9, fun e => absurd hw e⟩
theorem q_out (hr : r < 2) (h : RQ b c K M) : RQ b c (ks K (b + 16 + r) 8 0) (ks (ks M 25 (2 * c + r) 0) 26 (2 * c + r) 0) ∧ uK b r K (ks K (b + 16 + r) 8 0) ∧ uM c r M (ks (ks M 25 (2 * c + r) 0) 26 (2 * c + r) 0) := by
  have fK : uK b r K (ks K (b + 16 + r) 8 0) := fun i k h1 h2 => by (repeat rw [ks_n (by omega)])
  have fM : uM c r M (ks (ks M 25 (2 * c + r) 0) 26 (2 * c + r) 0) := fun row k h1 h2 => by (repeat rw [ks_n (by omega)])
  refine ⟨(RQ_ring hr h fK fM ?_ ?_).1, fK, fM⟩
  · exact rCal_f (by (repeat rw [ks_n (by omega)]) <;> rfl) (by (repeat rw [ks_n (by omega)]) <;> rfl) (fun i _ => by (repeat rw [ks_n (by omega)]) <;> rfl) (fun i _ => by (repeat rw [ks_n (by omega)]) <;> rfl) (fun i _ => by (repeat rw [ks_n (by omega)]) <;> rfl) h.1.2.2.1
  · have tp : ∀ x, rPh c r M x → rPh c r (ks (ks M 25 (2 * c + r) 0) 26 (2 * c + r) 0) x := fun x => rPh_f (fun i _ => fM 8 _ (by omega) (by omega)) (fM 6 _ (by omega) (by omega)) hr
    obtain ⟨h1, h2, h3, h4, h5, h6, h7, h8, h9, h10⟩ := RQ_rg hr h
    unfold rRing
    have k4 : (ks K (b + 16 + r) 8 0) (b + 16 + r) 4 = K (b + 16 + r) 4 := by simp [ks]
    have k0 : (ks K (b + 16 + r) 8 0) (b + 16 + r) 0 = K (b + 16 + r) 0 := by simp [ks]
    have k5 : (ks K (b + 16 + r) 8 0) (b + 16 + r) 5 = K (b + 16 + r) 5 := by simp [ks]
    have k6 : (ks K (b + 16 + r) 8 0) (b + 16 + r) 6 = K (b + 16 + r) 6 := by simp [ks]
    have k7 : (ks K (b + 16 + r) 8 0) (b + 16 + r) 7 = K (b + 16 + r) 7 := by simp [ks]
    have k1 : (ks K (b + 16 + r) 8 0) (b + 16 + r) 1 = K (b + 16 + r) 1 := by simp [ks]
    have k8 : (ks K (b + 16 + r) 8 0) (b + 16 + r) 8 = 0 := by simp [ks]
    have k9 : (ks K (b + 16 + r) 8 0) (b + 16 + r) 9 = K (b + 16 + r) 9 := by simp [ks]
    have m19 : (ks (ks M 25 (2 * c + r) 0) 26 (2 * c + r) 0) 19 (2 * c + r) = M 19 (2 * c + r) := by simp [ks]
    have m20 : (ks (ks M 25 (2 * c + r) 0) 26 (2 * c + r) 0) 20 (2 * c + r) = M 20 (2 * c + r) := by simp [ks]
    have m22 : (ks (ks M 25 (2 * c + r) 0) 26 (2 * c + r) 0) 22 (2 * c + r) = M 22 (2 * c + r) := by simp [ks]
    have m23 : (ks (ks M 25 (2 * c + r) 0) 26 (2 * c + r) 0) 23 (2 * c + r) = M 23 (2 * c + r) := by simp [ks]
    have m24 : (ks (ks M 25 (2 * c + r) 0) 26 (2 * c + r) 0) 24 (2 * c + r) = M 24 (2 * c + r) := by simp [ks]
    have m21 : (ks (ks M 25 (2 * c + r) 0) 26 (2 * c + r) 0) 21 (2 * c + r) = M 21 (2 * c + r) := by simp [ks]
    have m25 : (ks (ks M 25 (2 * c + r) 0) 26 (2 * c + r) 0) 25 (2 * c + r) = 0 := by simp [ks]
    have m26 : (ks (ks M 25 (2 * c + r) 0) 26 (2 * c + r) 0) 26 (2 * c + r) = 0 := by simp [ks]
    rw [k4, k0, k5, k6, k7, k1, k8, k9, m19, m20, m22, m23, m24, m21, m25, m26]
    exact ⟨h1, h2, h3, h4, h5, h6, h7, fun e => ⟨tp _ (h8 e).1, (h8 e).2.1, (h8 e).2.2.imp id (tp _)⟩, ⟨0, by omega, rfl, rfl⟩, fun e => absurd rfl e⟩
theorem q_against (hr : r < 2) (h : RQ b c K M) : RQ b c (ks K (b + 16 + r) 6 (K (b + 16 + r) 6 + 1)) (ks M 23 (2 * c + r) (M 23 (2 * c + r) + 1)) ∧ uK b r K (ks K (b + 16 + r) 6 (K (b + 16 + r) 6 + 1)) ∧ uM c r M (ks M 23 (2 * c + r) (M 23 (2 * c + r) + 1)) := by
  have fK : uK b r K (ks K (b + 16 + r) 6 (K (b + 16 + r) 6 + 1)) := fun i k h1 h2 => by (repeat rw [ks_n (by omega)])
  have fM : uM c r M (ks M 23 (2 * c + r) (M 23 (2 * c + r) + 1)) := fun row k h1 h2 => by (repeat rw [ks_n (by omega)])
  refine ⟨(RQ_ring hr h fK fM ?_ ?_).1, fK, fM⟩
  · exact rCal_f (by (repeat rw [ks_n (by omega)]) <;> rfl) (by (repeat rw [ks_n (by omega)]) <;> rfl) (fun i _ => by (repeat rw [ks_n (by omega)]) <;> rfl) (fun i _ => by (repeat rw [ks_n (by omega)]) <;> rfl) (fun i _ => by (repeat rw [ks_n (by omega)]) <;> rfl) h.1.2.2.1
  · have tp : ∀ x, rPh c r M x → rPh c r (ks M 23 (2 * c + r) (M 23 (2 * c + r) + 1)) x := fun x => rPh_f (fun i _ => fM 8 _ (by omega) (by omega)) (fM 6 _ (by omega) (by omega)) hr
    obtain ⟨h1, h2, h3, h4, h5, h6, h7, h8, h9, h10⟩ := RQ_rg hr h
    unfold rRing
    have k4 : (ks K (b + 16 + r) 6 (K (b + 16 + r) 6 + 1)) (b + 16 + r) 4 = K (b + 16 + r) 4 := by simp [ks]
    have k0 : (ks K (b + 16 + r) 6 (K (b + 16 + r) 6 + 1)) (b + 16 + r) 0 = K (b + 16 + r) 0 := by simp [ks]
    have k5 : (ks K (b + 16 + r) 6 (K (b + 16 + r) 6 + 1)) (b + 16 + r) 5 = K (b + 16 + r) 5 := by simp [ks]
    have k6 : (ks K (b + 16 + r) 6 (K (b + 16 + r) 6 + 1)) (b + 16 + r) 6 = (K (b + 16 + r) 6 + 1) := by simp [ks]
    have k7 : (ks K (b + 16 + r) 6 (K (b + 16 + r) 6 + 1)) (b + 16 + r) 7 = K (b + 16 + r) 7 := by simp [ks]
    have k1 : (ks K (b + 16 + r) 6 (K (b + 16 + r) 6 + 1)) (b + 16 + r) 1 = K (b + 16 + r) 1 := by simp [ks]
    have k8 : (ks K (b + 16 + r) 6 (K (b + 16 + r) 6 + 1)) (b + 16 + r) 8 = K (b + 16 + r) 8 := by simp [ks]
    have k9 : (ks K (b + 16 + r) 6 (K (b + 16 + r) 6 + 1)) (b + 16 + r) 9 = K (b + 16 + r) 9 := by simp [ks]
    have m19 : (ks M 23 (2 * c + r) (M 23 (2 * c + r) + 1)) 19 (2 * c + r) = M 19 (2 * c + r) := by simp [ks]
    have m20 : (ks M 23 (2 * c + r) (M 23 (2 * c + r) + 1)) 20 (2 * c + r) = M 20 (2 * c + r) := by simp [ks]
    have m22 : (ks M 23 (2 * c + r) (M 23 (2 * c + r) + 1)) 22 (2 * c + r) = M 22 (2 * c + r) := by simp [ks]
    have m23 : (ks M 23 (2 * c + r) (M 23 (2 * c + r) + 1)) 23 (2 * c + r) = (M 23 (2 * c + r) + 1) := by simp [ks]
    have m24 : (ks M 23 (2 * c + r) (M 23 (2 * c + r) + 1)) 24 (2 * c + r) = M 24 (2 * c + r) := by simp [ks]
    have m21 : (ks M 23 (2 * c + r) (M 23 (2 * c + r) + 1)) 21 (2 * c + r) = M 21 (2 * c + r) := by simp [ks]
    have m25 : (ks M 23 (2 * c + r) (M 23 (2 * c + r) + 1)) 25 (2 * c + r) = M 25 (2 * c + r) := by simp [ks]
    have m26 : (ks M 23 (2 * c + r) (M 23 (2 * c + r) + 1)) 26 (2 * c + r) = M 26 (2 * c + r) := by simp [ks]
    rw [k4, k0, k5, k6, k7, k1, k8, k9, m19, m20, m22, m23, m24, m21, m25, m26]
    exact ⟨h1, h2, h3, by rw [h4], h5, h6, h7, fun e => ⟨tp _ (h8 e).1, (h8 e).2.1, (h8 e).2.2.imp id (tp _)⟩, h9, h10⟩
theorem q_scr23 {x y : Int32} (hr : r < 2) (h : RQ b c K M) : RQ b c (ks (ks K (b + 16 + r) 2 x) (b + 16 + r) 3 y) M ∧ uK b r K (ks (ks K (b + 16 + r) 2 x) (b + 16 + r) 3 y) ∧ uM c r M M := by
  have fK : uK b r K (ks (ks K (b + 16 + r) 2 x) (b + 16 + r) 3 y) := fun i k h1 h2 => by (repeat rw [ks_n (by omega)])
  have fM : uM c r M M := fun _ _ _ _ => rfl
  refine ⟨(RQ_ring hr h fK fM ?_ ?_).1, fK, fM⟩
  · exact rCal_f (by (repeat rw [ks_n (by omega)]) <;> rfl) (by (repeat rw [ks_n (by omega)]) <;> rfl) (fun i _ => by (repeat rw [ks_n (by omega)]) <;> rfl) (fun i _ => by (repeat rw [ks_n (by omega)]) <;> rfl) (fun i _ => by (repeat rw [ks_n (by omega)]) <;> rfl) h.1.2.2.1
  · have tp : ∀ x, rPh c r M x → rPh c r M x := fun x => rPh_f (fun i _ => fM 8 _ (by omega) (by omega)) (fM 6 _ (by omega) (by omega)) hr
    obtain ⟨h1, h2, h3, h4, h5, h6, h7, h8, h9, h10⟩ := RQ_rg hr h
    unfold rRing
    have k4 : (ks (ks K (b + 16 + r) 2 x) (b + 16 + r) 3 y) (b + 16 + r) 4 = K (b + 16 + r) 4 := by simp [ks]
    have k0 : (ks (ks K (b + 16 + r) 2 x) (b + 16 + r) 3 y) (b + 16 + r) 0 = K (b + 16 + r) 0 := by simp [ks]
    have k5 : (ks (ks K (b + 16 + r) 2 x) (b + 16 + r) 3 y) (b + 16 + r) 5 = K (b + 16 + r) 5 := by simp [ks]
    have k6 : (ks (ks K (b + 16 + r) 2 x) (b + 16 + r) 3 y) (b + 16 + r) 6 = K (b + 16 + r) 6 := by simp [ks]
    have k7 : (ks (ks K (b + 16 + r) 2 x) (b + 16 + r) 3 y) (b + 16 + r) 7 = K (b + 16 + r) 7 := by simp [ks]
    have k1 : (ks (ks K (b + 16 + r) 2 x) (b + 16 + r) 3 y) (b + 16 + r) 1 = K (b + 16 + r) 1 := by simp [ks]
    have k8 : (ks (ks K (b + 16 + r) 2 x) (b + 16 + r) 3 y) (b + 16 + r) 8 = K (b + 16 + r) 8 := by simp [ks]
    have k9 : (ks (ks K (b + 16 + r) 2 x) (b + 16 + r) 3 y) (b + 16 + r) 9 = K (b + 16 + r) 9 := by simp [ks]
    rw [k4, k0, k5, k6, k7, k1, k8, k9]
    exact ⟨h1, h2, h3, h4, h5, h6, h7, fun e => ⟨tp _ (h8 e).1, (h8 e).2.1, (h8 e).2.2.imp id (tp _)⟩, h9, h10⟩
theorem q_begin {q g : Nat} (hr : r < 2) (hq : q < 4) (hu : M 8 (8 * c + (4 * r + q)) = 1) (hsd : M 6 c = nI (q / 2)) (hg : g ≤ 99) (h : RQ b c K M) : RQ b c (ks (ks (ks (ks (ks (ks (ks (ks K (b + 16 + r) 0 (nI (4 * r + q))) (b + 16 + r) 1 (-1)) (b + 16 + r) 6 0) (b + 16 + r) 7 (nI g)) (b + 16 + r) 8 0) (b + 16 + r) 4 4) (b + 16 + r) 5 0) b 13 (K b 13 &&& (jshl 1 (nI (4 * r + q)) ^^^ (-1)))) (ks (ks (ks (ks (ks (ks (ks (ks M 19 (2 * c + r) 1) 20 (2 * c + r) (nI (4 * r + q))) 21 (2 * c + r) (-1)) 22 (2 * c + r) 0) 9 (8 * c + (4 * r + q)) 0) 23 (2 * c + r) 0) 24 (2 * c + r) (nI g)) 25 (2 * c + r) 0) ∧ uK b r K (ks (ks (ks (ks (ks (ks (ks (ks K (b + 16 + r) 0 (nI (4 * r + q))) (b + 16 + r) 1 (-1)) (b + 16 + r) 6 0) (b + 16 + r) 7 (nI g)) (b + 16 + r) 8 0) (b + 16 + r) 4 4) (b + 16 + r) 5 0) b 13 (K b 13 &&& (jshl 1 (nI (4 * r + q)) ^^^ (-1)))) ∧ uM c r M (ks (ks (ks (ks (ks (ks (ks (ks M 19 (2 * c + r) 1) 20 (2 * c + r) (nI (4 * r + q))) 21 (2 * c + r) (-1)) 22 (2 * c + r) 0) 9 (8 * c + (4 * r + q)) 0) 23 (2 * c + r) 0) 24 (2 * c + r) (nI g)) 25 (2 * c + r) 0) := by
  have fK : uK b r K (ks (ks (ks (ks (ks (ks (ks (ks K (b + 16 + r) 0 (nI (4 * r + q))) (b + 16 + r) 1 (-1)) (b + 16 + r) 6 0) (b + 16 + r) 7 (nI g)) (b + 16 + r) 8 0) (b + 16 + r) 4 4) (b + 16 + r) 5 0) b 13 (K b 13 &&& (jshl 1 (nI (4 * r + q)) ^^^ (-1)))) := fun i k h1 h2 => by (repeat rw [ks_n (by omega)])
  have fM : uM c r M (ks (ks (ks (ks (ks (ks (ks (ks M 19 (2 * c + r) 1) 20 (2 * c + r) (nI (4 * r + q))) 21 (2 * c + r) (-1)) 22 (2 * c + r) 0) 9 (8 * c + (4 * r + q)) 0) 23 (2 * c + r) 0) 24 (2 * c + r) (nI g)) 25 (2 * c + r) 0) := fun row k h1 h2 => by (repeat rw [ks_n (by omega)])
  refine ⟨(RQ_ring hr h fK fM ?_ ?_).1, fK, fM⟩
  · exact cal_clr9 (p := 4 * r + q) h.1.2.2.1 (by omega) (by rw [ks_s]) (by (repeat rw [ks_n (by omega)]) <;> rfl) (fun i _ => by (repeat rw [ks_n (by omega)]) <;> rfl) (by rw [ks_n (by omega), ks_n (by omega), ks_n (by omega), ks_s]) (fun i _ hn => by (repeat rw [ks_n (by omega)]) <;> rfl) (fun i _ => by (repeat rw [ks_n (by omega)]) <;> rfl)
  · have tp : ∀ x, rPh c r M x → rPh c r (ks (ks (ks (ks (ks (ks (ks (ks M 19 (2 * c + r) 1) 20 (2 * c + r) (nI (4 * r + q))) 21 (2 * c + r) (-1)) 22 (2 * c + r) 0) 9 (8 * c + (4 * r + q)) 0) 23 (2 * c + r) 0) 24 (2 * c + r) (nI g)) 25 (2 * c + r) 0) x := fun x => rPh_f (fun i _ => fM 8 _ (by omega) (by omega)) (fM 6 _ (by omega) (by omega)) hr
    obtain ⟨h1, h2, h3, h4, h5, h6, h7, h8, h9, h10⟩ := RQ_rg hr h
    unfold rRing
    have k4 : (ks (ks (ks (ks (ks (ks (ks (ks K (b + 16 + r) 0 (nI (4 * r + q))) (b + 16 + r) 1 (-1)) (b + 16 + r) 6 0) (b + 16 + r) 7 (nI g)) (b + 16 + r) 8 0) (b + 16 + r) 4 4) (b + 16 + r) 5 0) b 13 (K b 13 &&& (jshl 1 (nI (4 * r + q)) ^^^ (-1)))) (b + 16 + r) 4 = 4 := by simp [ks]
    have k0 : (ks (ks (ks (ks (ks (ks (ks (ks K (b + 16 + r) 0 (nI (4 * r + q))) (b + 16 + r) 1 (-1)) (b + 16 + r) 6 0) (b + 16 + r) 7 (nI g)) (b + 16 + r) 8 0) (b + 16 + r) 4 4) (b + 16 + r) 5 0) b 13 (K b 13 &&& (jshl 1 (nI (4 * r + q)) ^^^ (-1)))) (b + 16 + r) 0 = (nI (4 * r + q)) := by simp [ks]
    have k5 : (ks (ks (ks (ks (ks (ks (ks (ks K (b + 16 + r) 0 (nI (4 * r + q))) (b + 16 + r) 1 (-1)) (b + 16 + r) 6 0) (b + 16 + r) 7 (nI g)) (b + 16 + r) 8 0) (b + 16 + r) 4 4) (b + 16 + r) 5 0) b 13 (K b 13 &&& (jshl 1 (nI (4 * r + q)) ^^^ (-1)))) (b + 16 + r) 5 = 0 := by simp [ks]
    have k6 : (ks (ks (ks (ks (ks (ks (ks (ks K (b + 16 + r) 0 (nI (4 * r + q))) (b + 16 + r) 1 (-1)) (b + 16 + r) 6 0) (b + 16 + r) 7 (nI g)) (b + 16 + r) 8 0) (b + 16 + r) 4 4) (b + 16 + r) 5 0) b 13 (K b 13 &&& (jshl 1 (nI (4 * r + q)) ^^^ (-1)))) (b + 16 + r) 6 = 0 := by simp [ks]
    have k7 : (ks (ks (ks (ks (ks (ks (ks (ks K (b + 16 + r) 0 (nI (4 * r + q))) (b + 16 + r) 1 (-1)) (b + 16 + r) 6 0) (b + 16 + r) 7 (nI g)) (b + 16 + r) 8 0) (b + 16 + r) 4 4) (b + 16 + r) 5 0) b 13 (K b 13 &&& (jshl 1 (nI (4 * r + q)) ^^^ (-1)))) (b + 16 + r) 7 = (nI g) := by simp [ks]
    have k1 : (ks (ks (ks (ks (ks (ks (ks (ks K (b + 16 + r) 0 (nI (4 * r + q))) (b + 16 + r) 1 (-1)) (b + 16 + r) 6 0) (b + 16 + r) 7 (nI g)) (b + 16 + r) 8 0) (b + 16 + r) 4 4) (b + 16 + r) 5 0) b 13 (K b 13 &&& (jshl 1 (nI (4 * r + q)) ^^^ (-1)))) (b + 16 + r) 1 = (-1) := by simp [ks]
    have k8 : (ks (ks (ks (ks (ks (ks (ks (ks K (b + 16 + r) 0 (nI (4 * r + q))) (b + 16 + r) 1 (-1)) (b + 16 + r) 6 0) (b + 16 + r) 7 (nI g)) (b + 16 + r) 8 0) (b + 16 + r) 4 4) (b + 16 + r) 5 0) b 13 (K b 13 &&& (jshl 1 (nI (4 * r + q)) ^^^ (-1)))) (b + 16 + r) 8 = 0 := by simp [ks]
    have k9 : (ks (ks (ks (ks (ks (ks (ks (ks K (b + 16 + r) 0 (nI (4 * r + q))) (b + 16 + r) 1 (-1)) (b + 16 + r) 6 0) (b + 16 + r) 7 (nI g)) (b + 16 + r) 8 0) (b + 16 + r) 4 4) (b + 16 + r) 5 0) b 13 (K b 13 &&& (jshl 1 (nI (4 * r + q)) ^^^ (-1)))) (b + 16 + r) 9 = K (b + 16 + r) 9 := by simp [ks]
    have m19 : (ks (ks (ks (ks (ks (ks (ks (ks M 19 (2 * c + r) 1) 20 (2 * c + r) (nI (4 * r + q))) 21 (2 * c + r) (-1)) 22 (2 * c + r) 0) 9 (8 * c + (4 * r + q)) 0) 23 (2 * c + r) 0) 24 (2 * c + r) (nI g)) 25 (2 * c + r) 0) 19 (2 * c + r) = 1 := by simp [ks]
    have m20 : (ks (ks (ks (ks (ks (ks (ks (ks M 19 (2 * c + r) 1) 20 (2 * c + r) (nI (4 * r + q))) 21 (2 * c + r) (-1)) 22 (2 * c + r) 0) 9 (8 * c + (4 * r + q)) 0) 23 (2 * c + r) 0) 24 (2 * c + r) (nI g)) 25 (2 * c + r) 0) 20 (2 * c + r) = (nI (4 * r + q)) := by simp [ks]
    have m22 : (ks (ks (ks (ks (ks (ks (ks (ks M 19 (2 * c + r) 1) 20 (2 * c + r) (nI (4 * r + q))) 21 (2 * c + r) (-1)) 22 (2 * c + r) 0) 9 (8 * c + (4 * r + q)) 0) 23 (2 * c + r) 0) 24 (2 * c + r) (nI g)) 25 (2 * c + r) 0) 22 (2 * c + r) = 0 := by simp [ks]
    have m23 : (ks (ks (ks (ks (ks (ks (ks (ks M 19 (2 * c + r) 1) 20 (2 * c + r) (nI (4 * r + q))) 21 (2 * c + r) (-1)) 22 (2 * c + r) 0) 9 (8 * c + (4 * r + q)) 0) 23 (2 * c + r) 0) 24 (2 * c + r) (nI g)) 25 (2 * c + r) 0) 23 (2 * c + r) = 0 := by simp [ks]
    have m24 : (ks (ks (ks (ks (ks (ks (ks (ks M 19 (2 * c + r) 1) 20 (2 * c + r) (nI (4 * r + q))) 21 (2 * c + r) (-1)) 22 (2 * c + r) 0) 9 (8 * c + (4 * r + q)) 0) 23 (2 * c + r) 0) 24 (2 * c + r) (nI g)) 25 (2 * c + r) 0) 24 (2 * c + r) = (nI g) := by simp [ks]
    have m21 : (ks (ks (ks (ks (ks (ks (ks (ks M 19 (2 * c + r) 1) 20 (2 * c + r) (nI (4 * r + q))) 21 (2 * c + r) (-1)) 22 (2 * c + r) 0) 9 (8 * c + (4 * r + q)) 0) 23 (2 * c + r) 0) 24 (2 * c + r) (nI g)) 25 (2 * c + r) 0) 21 (2 * c + r) = (-1) := by simp [ks]
    have m25 : (ks (ks (ks (ks (ks (ks (ks (ks M 19 (2 * c + r) 1) 20 (2 * c + r) (nI (4 * r + q))) 21 (2 * c + r) (-1)) 22 (2 * c + r) 0) 9 (8 * c + (4 * r + q)) 0) 23 (2 * c + r) 0) 24 (2 * c + r) (nI g)) 25 (2 * c + r) 0) 25 (2 * c + r) = 0 := by simp [ks]
    have m26 : (ks (ks (ks (ks (ks (ks (ks (ks M 19 (2 * c + r) 1) 20 (2 * c + r) (nI (4 * r + q))) 21 (2 * c + r) (-1)) 22 (2 * c + r) 0) 9 (8 * c + (4 * r + q)) 0) 23 (2 * c + r) 0) 24 (2 * c + r) (nI g)) 25 (2 * c + r) 0) 26 (2 * c + r) = M 26 (2 * c + r) := by simp [ks]
    rw [k4, k0, k5, k6, k7, k1, k8, k9, m19, m20, m22, m23, m24, m21, m25, m26]
    exact ⟨⟨1, by omega, rfl, rfl⟩, rfl, rfl, rfl, rfl, ⟨g, hg, rfl⟩, fun e => absurd e (by decide), fun _ => ⟨tp _ ⟨q, hq, rfl, hu, hsd⟩, rfl, Or.inl rfl⟩, ⟨0, by omega, rfl, rfl⟩, fun e => absurd rfl e⟩
end Gr
