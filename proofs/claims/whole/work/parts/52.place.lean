/-! ENACTING: the first wrong place; which phases are used -/
section Pl
variable {b c p : Nat} {K M : Mem}
theorem C_innerU (hp : p < 8) (cont : Int32 → Option Int32) (hu : K (b + 1) (8 * p) = 0) : ∀ j i n, i + j = 8 → j < n → f_X7_wrongPlace_L10 cont b (nI p) n (nI i) K = cont (nI 8) := by
  intro j
  induction j with
  | zero =>
    intro i n hi hn
    obtain ⟨n, rfl⟩ : ∃ q, n = q + 1 := ⟨n - 1, by omega⟩
    have : i = 8 := by omega
    subst this
    rw [f_X7_wrongPlace_L10, if_pos c8_yes]
  | succ j ih =>
    intro i n hi hn
    obtain ⟨n, rfl⟩ : ∃ q, n = q + 1 := ⟨n - 1, by omega⟩
    rw [f_X7_wrongPlace_L10, if_neg (c8_no (by omega)), C_isUsed hp, ob, hu]
    simp only [decide_true, Bool.not_true, bi_f, if_true, lt, n_a1]
    exact ih (i + 1) n (by omega) (by omega)
theorem C_inner (hp : p < 8) (cont : Int32 → Option Int32) (hu : ¬ K (b + 1) (8 * p) = 0) (hD : ∀ i, i < 64 → ∃ n, n ≤ 99 ∧ K (b + 1) i = nI n) : ∀ j i n, i + j = 8 → j < n → f_X7_wrongPlace_L10 cont b (nI p) n (nI i) K = (match fw (bad (fun i => K (b + 1) i) p) j i with | some w => some (nI (8 * p + w)) | none => cont (nI 8)) := by
  intro j
  induction j with
  | zero =>
    intro i n hi hn
    obtain ⟨n, rfl⟩ : ∃ q, n = q + 1 := ⟨n - 1, by omega⟩
    have : i = 8 := by omega
    subst this
    rw [f_X7_wrongPlace_L10, if_pos c8_yes, fw]
  | succ j ih =>
    intro i n hi hn
    obtain ⟨n, rfl⟩ : ∃ q, n = q + 1 := ⟨n - 1, by omega⟩
    rw [f_X7_wrongPlace_L10, if_neg (c8_no (by omega)), C_isUsed hp, ob, decide_eq_false hu, C_isRight hp (by omega) hD, ob, fw]
    simp only [Bool.not_false, bi_t, n10, if_false]
    cases hb : bad (fun i => K (b + 1) i) p i
    · simp only [Bool.not_false, bi_t, n10, if_false, lt, n_a1]
      exact ih (i + 1) n (by omega) (by omega)
    · simp only [Bool.not_true, bi_f, if_true, n_8r, n_ak]
theorem M_inner (hc : c < 2) (hp : p < 8) (cont : Int32 → Option Int32) (y2 y3 : Int32) : ∀ j i n, i + j = 8 → j < n → f_X9_wrongPlace_L42 cont (nI c) y2 y3 (nI p) (nI (64 * c + 8 * p)) n (nI i) M = (match fw (bad (fun i => M 1 (64 * c + i)) p) j i with | some w => some (nI (8 * p + w)) | none => cont (nI 8)) := by
  intro j
  induction j with
  | zero =>
    intro i n hi hn
    obtain ⟨n, rfl⟩ : ∃ q, n = q + 1 := ⟨n - 1, by omega⟩
    have : i = 8 := by omega
    subst this
    rw [f_X9_wrongPlace_L42, if_pos c8_yes, fw]
  | succ j ih =>
    intro i n hi hn
    obtain ⟨n, rfl⟩ : ∃ q, n = q + 1 := ⟨n - 1, by omega⟩
    rw [f_X9_wrongPlace_L42, if_neg (c8_no (by omega)), M_isWrong hc hp (by omega), ob, fw]
    cases hb : bad (fun i => M 1 (64 * c + i)) p i
    · simp only [bi_f, if_true, lt, n_a1]
      exact ih (i + 1) n (by omega) (by omega)
    · simp only [bi_t, n10, if_false, if_true, n_8, n_ak]
/-- used by the draft, of side s -/
def uS (D : Nat → Int32) (s q : Nat) : Bool := !decide (D (8 * q) = 0) && decide (q % 4 / 2 = s)
theorem outer (hc : c < 2) {D : Nat → Int32} (hK : ∀ i, i < 64 → K (b + 1) i = D i) (hM : ∀ i, i < 64 → M 1 (64 * c + i) = D i) (hD : ∀ i, i < 64 → ∃ n, n ≤ 99 ∧ D i = nI n) (cC : Int32 → Option Int32) (cM : Int32 × Int32 × Int32 → Option Int32) (R : Int32)
    (hC : ∀ v, cC v = some R) (hMc : ∀ v, cM (bi (anyf (uS D 0) 8), bi (anyf (uS D 1) 8), v) = some R) :
    ∀ j i n m (z o : Bool), i + j = 8 → j < n → j < m → z = anyf (uS D 0) i → o = anyf (uS D 1) i → ∃ r, f_X7_wrongPlace_L2 cC b n (nI i) K = some r ∧ f_X9_wrongPlace_L7 cM (nI c) m (bi z) (bi o) (nI i) M = some r ∧ (r = R ∨ ∃ k, k < 64 ∧ r = nI k) := by
  intro j
  induction j with
  | zero =>
    intro i n m z o hi hn hm hz ho
    obtain ⟨n, rfl⟩ : ∃ q, n = q + 1 := ⟨n - 1, by omega⟩
    obtain ⟨m, rfl⟩ : ∃ q, m = q + 1 := ⟨m - 1, by omega⟩
    have : i = 8 := by omega
    subst this
    exact ⟨R, by rw [f_X7_wrongPlace_L2, if_pos c8_yes, hC], by rw [f_X9_wrongPlace_L7, if_pos c8_yes, hz, ho, hMc], Or.inl rfl⟩
  | succ j ih =>
    intro i n m z o hi hn hm hz ho
    obtain ⟨n, rfl⟩ : ∃ q, n = q + 1 := ⟨n - 1, by omega⟩
    obtain ⟨m, rfl⟩ : ∃ q, m = q + 1 := ⟨m - 1, by omega⟩
    have h8 : i < 8 := by omega
    have hD' : ∀ i, i < 64 → ∃ n, n ≤ 99 ∧ K (b + 1) i = nI n := fun k hk => by rw [hK k hk]; exact hD k hk
    have eb : ∀ w, w < 8 → bad (fun i => K (b + 1) i) i w = bad (fun i => M 1 (64 * c + i)) i w := by
      intro w hw
      unfold bad
      simp only [hK (8 * i) (by omega), hK (8 * i + 1) (by omega), hK (8 * i + 2) (by omega), hK (8 * i + 3) (by omega), hK (8 * i + 4) (by omega), hK (8 * i + 5) (by omega), hK (8 * i + 6) (by omega), hK (8 * i + 7) (by omega), hM (8 * i) (by omega), hM (8 * i + 1) (by omega), hM (8 * i + 2) (by omega), hM (8 * i + 3) (by omega), hM (8 * i + 4) (by omega), hM (8 * i + 5) (by omega), hM (8 * i + 6) (by omega), hM (8 * i + 7) (by omega)]
    have ef : ∀ j i2, i2 + j ≤ 8 → fw (bad (fun i => K (b + 1) i) i) j i2 = fw (bad (fun i => M 1 (64 * c + i)) i) j i2 := by
      intro j
      induction j with
      | zero => intro _ _; rfl
      | succ j ih2 =>
        intro i2 h2
        rw [fw, fw, eb i2 (by omega), ih2 (i2 + 1) (by omega)]
    have ex : inb (nI (64 * c + 8 * i)) 128 = true := inb_t (by omega) (by omega)
    have xx : ix (nI (64 * c + 8 * i)) = 64 * c + 8 * i := ix_nI (by omega)
    have e0 : uS D 0 i = (!decide (D (8 * i) = 0) && decide (i % 4 / 2 = 0)) := rfl
    have e1 : uS D 1 i = (!decide (D (8 * i) = 0) && decide (i % 4 / 2 = 1)) := rfl
    rw [f_X7_wrongPlace_L2, if_neg (c8_no h8), f_X9_wrongPlace_L7, if_neg (c8_no h8)]
    simp only [lt, n_64, n_8, n_ak, ex, xx, if_true, hM (8 * i) (by omega), n_a1]
    by_cases hu : D (8 * i) = 0
    · rw [if_pos hu, show (0 : Int32) = nI 0 from rfl, C_innerU h8 _ (by rw [hK _ (by omega)]; exact hu) 8 0 70 rfl (by omega)]
      exact ih (i + 1) n m z o (by omega) (by omega) (by omega) (by rw [anyf, e0, hu, ← hz]; simp) (by rw [anyf, e1, hu, ← ho]; simp)
    · rw [if_neg hu, show (0 : Int32) = nI 0 from rfl, C_inner h8 _ (by rw [hK _ (by omega)]; exact hu) hD' 8 0 70 rfl (by omega), M_inner hc h8 _ _ _ 8 0 70 rfl (by omega), ef 8 0 (by omega)]
      cases hf : fw (bad (fun i => M 1 (64 * c + i)) i) 8 0 with
      | some w =>
        have hw : ∀ j k w, fw (bad (fun i => M 1 (64 * c + i)) i) j k = some w → w < k + j := by
          intro j
          induction j with
          | zero => intro k w h; cases h
          | succ j ih3 =>
            intro k w h
            rw [fw] at h
            by_cases hb : bad (fun i => M 1 (64 * c + i)) i k = true
            · rw [if_pos hb] at h
              cases h
              omega
            · rw [if_neg hb] at h
              have := ih3 _ _ h
              omega
        have := hw 8 0 w hf
        exact ⟨_, rfl, rfl, Or.inr ⟨8 * i + w, by omega, rfl⟩⟩
      | none =>
        simp only [M_sideOf h8, ob]
        by_cases hs : i % 4 / 2 = 0
        · rw [hs, if_pos (show nI 0 = nI 0 from rfl), ob]
          exact ih (i + 1) n m true o (by omega) (by omega) (by omega) (by rw [anyf, e0, hs]; simp [hu]) (by rw [anyf, e1, hs, ← ho]; simp)
        · have hs1 : i % 4 / 2 = 1 := by omega
          rw [hs1, if_neg (by decide), ob]
          exact ih (i + 1) n m z true (by omega) (by omega) (by omega) (by rw [anyf, e0, hs1, ← hz]; simp) (by rw [anyf, e1, hs1]; simp [hu])
/-- the mask of the used phases -/
theorem C_usedL : ∀ j i n m, i + j = 8 → j < n → mk m (fun q => decide (q < i) && !decide (K (b + 1) (8 * q) = 0)) → ∃ m', f_X7_used_L4 b n m (nI i) K = some (m', nI 8) ∧ mk m' (fun q => !decide (K (b + 1) (8 * q) = 0)) := by
  intro j
  induction j with
  | zero =>
    intro i n m hi hn hm
    obtain ⟨n, rfl⟩ : ∃ q, n = q + 1 := ⟨n - 1, by omega⟩
    have : i = 8 := by omega
    subst this
    exact ⟨m, by rw [f_X7_used_L4, if_pos c8_yes], mk_congr hm (fun q hq => by simp [hq])⟩
  | succ j ih =>
    intro i n m hi hn hm
    obtain ⟨n, rfl⟩ : ∃ q, n = q + 1 := ⟨n - 1, by omega⟩
    have h8 : i < 8 := by omega
    rw [f_X7_used_L4, if_neg (c8_no h8), C_isUsed h8, ob, C_bit h8, ob]
    simp only [lt, n_a1]
    by_cases hu : K (b + 1) (8 * i) = 0
    · simp only [hu, decide_true, Bool.not_true, bi_f, if_true, ob]
      refine ih (i + 1) n m (by omega) (by omega) (mk_congr hm (fun q hq => ?_))
      by_cases hqi : q = i
      · subst hqi
        simp [hu]
      · have : decide (q < i) = decide (q < i + 1) := by
          by_cases h1 : q < i
          · rw [decide_eq_true h1, decide_eq_true (by omega)]
          · rw [decide_eq_false h1, decide_eq_false (by omega)]
        rw [this]
    · simp only [hu, decide_false, Bool.not_false, bi_t, n10, if_false, ob]
      refine ih (i + 1) n _ (by omega) (by omega) (mk_congr (mk_or hm (bit_lt i h8)) (fun q hq => ?_))
      by_cases hqi : q = i
      · subst hqi
        simp [hu]
      · have : decide (q < i) = decide (q < i + 1) := by
          by_cases h1 : q < i
          · rw [decide_eq_true h1, decide_eq_true (by omega)]
          · rw [decide_eq_false h1, decide_eq_false (by omega)]
        rw [this]
        simp [hqi]
theorem C_used (b : Nat) (K : Mem) : ∃ m, f_X7_used b K = some m ∧ mk m (fun q => !decide (K (b + 1) (8 * q) = 0)) := by
  obtain ⟨m, e1, e2⟩ := C_usedL (b := b) (K := K) 8 0 70 0 rfl (by omega) (mk_congr mk_0 (fun q hq => by simp))
  refine ⟨m, ?_, e2⟩
  unfold f_X7_used
  show (f_X7_used_L4 b 70 0 (nI 0) K).bind _ = _
  rw [e1, ob]
theorem s_wrong (hc : c < 2) (hT : rTab b c K M) : ∃ r, f_X7_wrongPlace (b + 1) K = some r ∧ f_X9_wrongPlace (nI c) M = some r ∧ (r = -1 → ∃ q, q < 8 ∧ ¬ M 1 (64 * c + 8 * q) = 0) := by
  obtain ⟨m, e1, e2⟩ := C_used (b + 1) K
  have hK : ∀ i, i < 64 → K (b + 1 + 1) i = M 1 (64 * c + i) := fun i hi => (hT i hi).1
  have e3 : mk m (fun q => !decide (M 1 (64 * c + 8 * q) = 0)) := mk_congr e2 (fun q hq => by rw [hK (8 * q) (by omega)])
  have a0 : (m &&& 51 = 0) ↔ anyf (uS (fun i => M 1 (64 * c + i)) 0) 8 = false := by
    rw [mk_eq0 (mk_and e3 mk_51), ← Bool.not_eq_true, anyf_iff]
    constructor
    · rintro h ⟨q, hq, hx⟩
      have := h q hq
      unfold uS at hx
      rw [hx] at this
      cases this
    · intro h q hq
      cases hx : (!decide (M 1 (64 * c + 8 * q) = 0) && decide (q % 4 / 2 = 0)) with
      | false => rfl
      | true => exact absurd ⟨q, hq, hx⟩ h
  have a1 : (m &&& 204 = 0) ↔ anyf (uS (fun i => M 1 (64 * c + i)) 1) 8 = false := by
    rw [mk_eq0 (mk_and e3 mk_204), ← Bool.not_eq_true, anyf_iff]
    constructor
    · rintro h ⟨q, hq, hx⟩
      have := h q hq
      unfold uS at hx
      rw [hx] at this
      cases this
    · intro h q hq
      cases hx : (!decide (M 1 (64 * c + 8 * q) = 0) && decide (q % 4 / 2 = 1)) with
      | false => rfl
      | true => exact absurd ⟨q, hq, hx⟩ h
  have hR : ∃ R, (∀ v : Int32, (fun _ : Int32 => (f_X7_used (b + 1) K).bind fun u12 => if (u12 &&& 51) = 0 then (some 64) else ((f_X7_used (b + 1) K).bind fun u14 => if (u14 &&& 204) = 0 then (some 65) else (some (-1)))) v = some R) ∧ (∀ v : Int32, (fun v19 : Int32 × Int32 × Int32 => if v19.1 = 0 then (some (64 : Int32)) else (if v19.2.1 = 0 then (some 65) else (some (-1)))) (bi (anyf (uS (fun i => M 1 (64 * c + i)) 0) 8), bi (anyf (uS (fun i => M 1 (64 * c + i)) 1) 8), v) = some R) ∧ (R = -1 → anyf (uS (fun i => M 1 (64 * c + i)) 0) 8 = true) := by
    simp only [e1, ob]
    cases h0 : anyf (uS (fun i => M 1 (64 * c + i)) 0) 8
    · exact ⟨64, fun _ => if_pos (a0.mpr h0), fun _ => rfl, fun e => absurd e (by decide)⟩
    · have n0 : ¬ m &&& 51 = 0 := fun e => by rw [a0.mp e] at h0; cases h0
      cases h1 : anyf (uS (fun i => M 1 (64 * c + i)) 1) 8
      · exact ⟨65, fun _ => by rw [if_neg n0, if_pos (a1.mpr h1)], fun _ => rfl, fun _ => rfl⟩
      · have n1 : ¬ m &&& 204 = 0 := fun e => by rw [a1.mp e] at h1; cases h1
        exact ⟨-1, fun _ => by rw [if_neg n0, if_neg n1], fun _ => rfl, fun _ => rfl⟩
  obtain ⟨R, r1, r2, r3⟩ := hR
  obtain ⟨r, f1, f2, f3⟩ := outer (b := b + 1) (K := K) (M := M) hc (D := fun i => M 1 (64 * c + i)) hK (fun _ _ => rfl) (fun i hi => (hT i hi).2.2.1) _ (fun v19 : Int32 × Int32 × Int32 => if v19.1 = 0 then (some (64 : Int32)) else (if v19.2.1 = 0 then (some 65) else (some (-1)))) R r1 r2 8 0 70 70 false false rfl (by omega) (by omega) rfl rfl
  refine ⟨r, f1, f2, fun e => ?_⟩
  rcases f3 with e2 | ⟨k, hk, e2⟩
  · obtain ⟨q, hq, hx⟩ := (anyf_iff _ 8).mp (r3 (by rw [← e2]; exact e))
    refine ⟨q, hq, fun e0 => ?_⟩
    unfold uS at hx
    simp [e0] at hx
  · rw [e2] at e
    exact absurd e (nI_ne_m1 (by omega))
end Pl
