/-! finer frames: each clause by what it reads -/
section Ff
variable {b c : Nat} {K K' M M' : Mem}
abbrev sK (b i : Nat) (K K' : Mem) : Prop := ∀ k, K' (b + i) k = K (b + i) k
abbrev sM (s c row : Nat) (M M' : Mem) : Prop := ∀ i, i < s → M' row (s * c + i) = M row (s * c + i)
theorem one_f {row k : Nat} (h : M' row k = M row k) : one M' row k = one M row k := by
  unfold one
  rw [h]
theorem rTab_f (h2 : sK b 2 K K') (h4 : sK b 4 K K') (m1 : sM 64 c 1 M M') (m2 : sM 64 c 2 M M') (h : rTab b c K M) : rTab b c K' M' := by
  intro i hi
  rw [h2, h4, m1 i hi, m2 i hi]
  exact h i hi
theorem rUse_f (h0 : K' b 10 = K b 10) (m8 : sM 8 c 8 M M') (m2 : sM 64 c 2 M M') (h : rUse b c K M) : rUse b c K' M' := by
  refine ⟨?_, fun p hp => ?_⟩
  · rw [h0]
    exact mk_congr h.1 (fun i hi => (one_f (m8 i hi)).symm)
  · rw [m8 p hp, m2 (8 * p) (by omega)]
    exact h.2 p hp
theorem rCal_f (h0 : K' b 13 = K b 13) (h1 : K' b 14 = K b 14) (m8 : sM 8 c 8 M M') (m9 : sM 8 c 9 M M') (m10 : sM 8 c 10 M M') (h : rCal b c K M) : rCal b c K' M' := by
  refine ⟨?_, ?_, fun p hp => ?_⟩
  · rw [h0]
    exact mk_congr h.1 (fun i hi => (one_f (m9 i hi)).symm)
  · rw [h1]
    exact mk_congr h.2.1 (fun i hi => (one_f (m10 i hi)).symm)
  · rw [m8 p hp, m9 p hp, m10 p hp]
    exact h.2.2 p hp
theorem rDet_f (h5 : sK b 5 K K') (h6 : sK b 6 K K') (h7 : sK b 7 K K') (m11 : sM 8 c 11 M M') (m12 : sM 8 c 12 M M') (m13 : sM 8 c 13 M M') (h : rDet b c K M) : rDet b c K' M' := by
  refine ⟨?_, ?_, fun p hp => ?_⟩
  · rw [h5]
    exact mk_congr h.1 (fun i hi => (one_f (m11 i hi)).symm)
  · rw [h5]
    exact mk_congr h.2.1 (fun i hi => by rw [m12 i hi])
  · rw [m11 p hp, m12 p hp, m13 p hp, h6, h7]
    exact h.2.2 p hp
theorem rLnk_f (h8 : sK b 8 K K') (m29 : ∀ j, j < 4 → ¬ M 29 j = 0 → ¬ M' 29 j = 0) (m32 : M' 32 c = M 32 c) (m33 : M' 33 c = M 33 c) (m34 : M' 34 c = M 34 c) (m35 : M' 35 c = M 35 c) (h : rLnk b c K M) : rLnk b c K' M' := by
  unfold rLnk
  rw [h8, h8, h8, h8, m32, m33, m34, m35]
  obtain ⟨h1, h2, h3, h4, h5, h6, h7⟩ := h
  refine ⟨h1, h2, h3, h4, h5.imp id ?_, h6, h7⟩
  rintro ⟨j, hj, e1, e2, e3⟩
  exact ⟨j, hj, e1, m29 j hj e2, e3⟩
theorem rInp_f (h10 : sK b 10 K K') (h11 : sK b 11 K K') (m27 : sM 2 c 27 M M') (m28 : sM 2 c 28 M M') (h : rInp b c K M) : rInp b c K' M' := by
  intro i hi
  rw [h10, h11, m27 i hi, m28 i hi]
  exact h i hi
theorem rSc_f (h9 : K' b 9 = K b 9) (h10 : K' b 10 = K b 10) (h11 : K' b 11 = K b 11) (h12 : K' b 12 = K b 12) (h15 : K' b 15 = K b 15) (m3 : M' 3 c = M 3 c) (m4 : M' 4 c = M 4 c) (m5 : M' 5 c = M 5 c) (m6 : M' 6 c = M 6 c) (m7 : M' 7 c = M 7 c) (h : rSc b c K M) : rSc b c K' M' := by
  unfold rSc
  rw [h9, h10, h11, h12, h15, m3, m4, m5, m6, m7]
  exact h
theorem rHad_f (h15 : K' b 15 = K b 15) (m7 : M' 7 c = M 7 c) (m8 : sM 8 c 8 M M') (m9 : sM 8 c 9 M M') (m19 : sM 2 c 19 M M') (h : rHad b c K M) : rHad b c K' M' := by
  unfold rHad
  have e0 : M' 19 (2 * c) = M 19 (2 * c) := m19 0 (by omega)
  rw [h15, m7, e0, m19 1 (by omega)]
  refine h.imp id ?_
  rintro ⟨e1, e2, e3⟩
  exact ⟨e1, fun p hp => by rw [m8 p hp, m9 p hp]; exact e2 p hp, e3⟩
theorem rPh_f (m8 : sM 8 c 8 M M') (m6 : M' 6 c = M 6 c) {r : Nat} (hr : r < 2) {x : Int32} (h : rPh c r M x) : rPh c r M' x := by
  obtain ⟨q, hq, e1, e2, e3⟩ := h
  exact ⟨q, hq, e1, by rw [m8 _ (by omega)]; exact e2, by rw [m6]; exact e3⟩
theorem rRing_f {r : Nat} (hr : r < 2) (k : ∀ j, K' (b + 16 + r) j = K (b + 16 + r) j) (m8 : sM 8 c 8 M M') (m6 : M' 6 c = M 6 c) (m : ∀ row, 19 ≤ row → row ≤ 26 → M' row (2 * c + r) = M row (2 * c + r)) (h : rRing b c r K M) : rRing b c r K' M' := by
  unfold rRing
  rw [k, k, k, k, k, k, k, k, m 19 (by omega) (by omega), m 20 (by omega) (by omega), m 21 (by omega) (by omega), m 22 (by omega) (by omega), m 23 (by omega) (by omega), m 24 (by omega) (by omega), m 25 (by omega) (by omega), m 26 (by omega) (by omega)]
  obtain ⟨h1, h2, h3, h4, h5, h6, h7, h8, h9, h10⟩ := h
  refine ⟨h1, h2, h3, h4, h5, h6, h7, fun hs => ?_, h9, h10⟩
  obtain ⟨a1, a2, a3⟩ := h8 hs
  exact ⟨rPh_f m8 m6 hr a1, a2, a3.imp id (rPh_f m8 m6 hr)⟩
theorem rMon_f (h12 : K' (b + 12) 3 = K (b + 12) 3) (h14 : sK b 14 K K') (h15 : sK b 15 K K') (h18 : sK b 18 K K') (m5 : M' 5 c = M 5 c) (m8 : sM 8 c 8 M M') (m14 : sM 8 c 14 M M') (m16 : sM 8 c 16 M M') (m17 : sM 8 c 17 M M') (m18 : sM 8 c 18 M M') (h : rMon b c K M) : rMon b c K' M' := by
  refine ⟨by rw [h12]; exact h.1, fun p hp => ?_⟩
  rw [h15, h14, h12, h18, m18 p hp, m17 p hp, m16 p hp, m14 p hp, m8 p hp, m5]
  exact h.2 p hp
end Ff
/-- where crossing c may be written -/
def slc (c row k : Nat) : Prop := (64 * c ≤ k ∧ k < 64 * c + 64 ∧ (row = 1 ∨ row = 2)) ∨ (k = c ∧ (3 ≤ row ∧ row ≤ 7 ∨ 32 ≤ row ∧ row ≤ 35)) ∨ (8 * c ≤ k ∧ k < 8 * c + 8 ∧ 8 ≤ row ∧ row ≤ 18) ∨ (2 * c ≤ k ∧ k < 2 * c + 2 ∧ 19 ≤ row ∧ row ≤ 28)
def BC (b c : Nat) : Prop := (b = 5 ∧ c = 0) ∨ (b = 24 ∧ c = 1)
/-- nothing outside crossing (b, c) has changed -/
def oK (b : Nat) (K K' : Mem) : Prop := ∀ i k, (i < b ∨ b + 19 ≤ i) → K' i k = K i k
def oM (c : Nat) (M M' : Mem) : Prop := ∀ row k, ¬ slc c row k → M' row k = M row k
theorem oK_rf {b : Nat} {K : Mem} : oK b K K := fun _ _ _ => rfl
theorem oM_rf {c : Nat} {M : Mem} : oM c M M := fun _ _ _ => rfl
theorem oK_tr {b : Nat} {K K' K'' : Mem} (h : oK b K K') (h2 : oK b K' K'') : oK b K K'' := fun i k hi => (h2 i k hi).trans (h i k hi)
theorem oM_tr {c : Nat} {M M' M'' : Mem} (h : oM c M M') (h2 : oM c M' M'') : oM c M M'' := fun i k hi => (h2 i k hi).trans (h i k hi)
theorem oK_ks {b i k : Nat} {K : Mem} {v : Int32} (hi : i < 19) : oK b K (ks K (b + i) k v) := fun _ _ h => ks_i (by omega)
theorem oM_ks {c row k : Nat} {M : Mem} {v : Int32} (h : slc c row k) : oM c M (ks M row k v) := fun r k2 hn => ks_n (by
  by_cases h1 : r = row
  · by_cases h2 : k2 = k
    · subst h1; subst h2; exact absurd h hn
    · exact Or.inr h2
  · exact Or.inl h1)
theorem RG_o {T b c : Nat} {K K' M M' : Mem} (hbc : BC b c) (hK : oK b K K') (hM : oM c M M') (h : RG T K M) : RG T K' M' := by
  have k : ∀ i, i < 5 → ∀ j, K' i j = K i j := fun i hi j => hK i j (by unfold BC at hbc; omega)
  have m : ∀ j, M' 0 1 = M 0 1 ∧ M' 29 j = M 29 j ∧ M' 30 j = M 30 j ∧ M' 31 j = M 31 j := fun j => ⟨hM 0 1 (by unfold slc; omega), hM 29 j (by unfold slc; omega), hM 30 j (by unfold slc; omega), hM 31 j (by unfold slc; omega)⟩
  obtain ⟨h1, h2, h3⟩ := h
  refine ⟨by rw [k 0 (by omega), (m 0).1]; exact h1, by rw [(m 0).1]; exact h2, fun j hj => ?_⟩
  rw [k 2 (by omega), k 3 (by omega), k 4 (by omega), (m j).2.1, (m j).2.2.1, (m j).2.2.2]
  exact h3 j hj
theorem RR_in {T b c : Nat} {K M : Mem} (hbc : BC b c) (h : RR T K M) : RC b c K M := by
  rcases hbc with ⟨rfl, rfl⟩ | ⟨rfl, rfl⟩
  · exact h.2.1
  · exact h.2.2
theorem RR_up {T b c : Nat} {K K' M M' : Mem} (hbc : BC b c) (h : RR T K M) (hK : oK b K K') (hM : oM c M M') (hC : RC b c K' M') : RR T K' M' := by
  refine ⟨RG_o hbc hK hM h.1, ?_, ?_⟩
  · rcases hbc with ⟨rfl, rfl⟩ | ⟨rfl, rfl⟩
    · exact hC
    · exact RC_fr (fun i k hi => hK _ k (by omega)) (fun row k hr => hM row k (by unfold inM at hr; unfold slc; omega)) h.2.1
  · rcases hbc with ⟨rfl, rfl⟩ | ⟨rfl, rfl⟩
    · exact RC_fr (fun i k hi => hK _ k (by omega)) (fun row k hr => hM row k (by unfold inM at hr; unfold slc; omega)) h.2.2
    · exact hC
/-- the reference's code is nobody's business -/
theorem RR_code {T : Nat} {K M : Mem} (v : Int32) (h : RR T K M) : RR T K (ks M 0 0 v) := by
  have e : ∀ c, eqM c M (ks M 0 0 v) := fun c row k hr => ks_i (by unfold inM at hr; omega)
  refine ⟨⟨by rw [ks_k (by omega)]; exact h.1.1, by rw [ks_k (by omega)]; exact h.1.2.1, fun j hj => by rw [ks_i (by omega), ks_i (by omega), ks_i (by omega)]; exact h.1.2.2 j hj⟩, RC_fr (fun _ _ _ => rfl) (e 0) h.2.1, RC_fr (fun _ _ _ => rfl) (e 1) h.2.2⟩
theorem cr_cases (x : Int32) : (∃ b c, BC b c ∧ x = nI c ∧ c < 2 ∧ ∀ K, f_X8_controllerOf x K = some (some b)) ∨ ∀ K M, f_X8_controllerOf x K = some none ∧ f_X9_isCrossing x M = some 0 := by
  by_cases h0 : x = 0
  · exact Or.inl ⟨5, 0, Or.inl ⟨rfl, rfl⟩, h0, by omega, fun K => by rw [f_X8_controllerOf, if_pos h0]⟩
  · by_cases h1 : x = 1
    · exact Or.inl ⟨24, 1, Or.inr ⟨rfl, rfl⟩, h1, by omega, fun K => by rw [f_X8_controllerOf, if_neg h0, if_pos h1]⟩
    · exact Or.inr fun K M => ⟨by rw [f_X8_controllerOf, if_neg h0, if_neg h1], by rw [f_X9_isCrossing, if_neg h0, if_neg h1]⟩
theorem ph_cases (x : Int32) : (∃ p, p < 8 ∧ x = nI p) ∨ ((∀ K, f_X8_isPhase x K = some 0) ∧ ∀ y M, (∃ c, c < 2 ∧ y = nI c) → f_X9_isPhase y x M = some 0) := by
  rcases i_cases x 8 (by omega) with h | ⟨h, h8⟩ | h
  · refine Or.inr ⟨fun K => by rw [f_X8_isPhase, if_pos h], ?_⟩
    rintro y M ⟨c, hc, rfl⟩
    rw [f_X9_isPhase, M_isCr hc, ob, if_neg (by decide), if_pos h]
  · have h8 : (8 : Int32) ≤ x := h8
    refine Or.inr ⟨fun K => by rw [f_X8_isPhase, if_neg h, if_pos h8], ?_⟩
    rintro y M ⟨c, hc, rfl⟩
    rw [f_X9_isPhase, M_isCr hc, ob, if_neg (by decide), if_neg h, if_pos h8]
  · exact Or.inl h
theorem M_isPh0 {x y : Int32} {M : Mem} (h : f_X9_isCrossing x M = some 0) : f_X9_isPhase x y M = some 0 := by
  rw [f_X9_isPhase, h, ob, if_pos rfl]
