/-! A TICK, (g): the monitor, its parts -/
section Wa
variable {b c : Nat} {K K' M M' : Mem}
def lam (M : Mem) (c p : Nat) : Int32 := if M 8 (8 * c + p) = 0 then 0 else flt (M 14 (8 * c + p)) (bas M c p)
theorem lam_c (h : ∀ row k, row ≠ 15 → M' row k = M row k) (p : Nat) : lam M' c p = lam M c p := by
  unfold lam bas
  rw [h 8 _ (by omega), h 14 _ (by omega), h 19 _ (by omega), h 20 _ (by omega)]
theorem lam_v {p : Nat} (hf : ∃ n, n < 4 ∧ M 14 (8 * c + p) = nI n) : lampv (lam M c p) := by
  unfold lam
  by_cases h : M 8 (8 * c + p) = 0
  · rw [if_pos h]
    exact Or.inl rfl
  · rw [if_neg h]
    exact lampv_flt hf
theorem RC_see (h : RC b c K M) (hK : ∀ i k, i ≠ b + 13 → K' i k = K i k) (hM : ∀ row k, row ≠ 15 → M' row k = M row k) : RC b c K' M' := by
  have k0 : ∀ i, i ≠ 13 → sK b i K K' := fun i hi k => hK _ k (by omega)
  have kb : ∀ k, K' b k = K b k := fun k => hK b k (by omega)
  have m : ∀ row, row ≠ 15 → ∀ k, M' row k = M row k := fun row h k => hM row k h
  obtain ⟨a1, a2, a3, a4, a5, a6, a7, a8, a9, a10, a11⟩ := h
  exact ⟨rTab_f (k0 2 (by omega)) (k0 4 (by omega)) (fun i _ => m 1 (by omega) _) (fun i _ => m 2 (by omega) _) a1,
    rUse_f (kb 10) (fun i _ => m 8 (by omega) _) (fun i _ => m 2 (by omega) _) a2,
    rCal_f (kb 13) (kb 14) (fun i _ => m 8 (by omega) _) (fun i _ => m 9 (by omega) _) (fun i _ => m 10 (by omega) _) a3,
    rDet_f (k0 5 (by omega)) (k0 6 (by omega)) (k0 7 (by omega)) (fun i _ => m 11 (by omega) _) (fun i _ => m 12 (by omega) _) (fun i _ => m 13 (by omega) _) a4,
    rLnk_f (k0 8 (by omega)) (fun j _ e => by rw [m 29 (by omega)]; exact e) (m 32 (by omega) _) (m 33 (by omega) _) (m 34 (by omega) _) (m 35 (by omega) _) a5,
    rInp_f (k0 10 (by omega)) (k0 11 (by omega)) (fun i _ => m 27 (by omega) _) (fun i _ => m 28 (by omega) _) a6,
    rSc_f (kb 9) (kb 10) (kb 11) (kb 12) (kb 15) (m 3 (by omega) _) (m 4 (by omega) _) (m 5 (by omega) _) (m 6 (by omega) _) (m 7 (by omega) _) a7,
    rHad_f (kb 15) (m 7 (by omega) _) (fun i _ => m 8 (by omega) _) (fun i _ => m 9 (by omega) _) (fun i _ => m 19 (by omega) _) a8,
    rRing_f (by omega) (fun j => k0 16 (by omega) j) (fun i _ => m 8 (by omega) _) (m 6 (by omega) _) (fun row h1 h2 => m row (by omega) _) a9,
    rRing_f (by omega) (fun j => k0 17 (by omega) j) (fun i _ => m 8 (by omega) _) (m 6 (by omega) _) (fun row h1 h2 => m row (by omega) _) a10,
    rMon_f (k0 12 (by omega) 3) (k0 14 (by omega)) (k0 15 (by omega)) (k0 18 (by omega)) (m 5 (by omega) _) (fun i _ => m 8 (by omega) _) (fun i _ => m 14 (by omega) _) (fun i _ => m 16 (by omega) _) (fun i _ => m 17 (by omega) _) (fun i _ => m 18 (by omega) _) a11⟩
theorem C_seeL (h : RC b c K M) (h11 : K b 11 = 0) : ∃ y K', f_X0_watch_L2 b 70 0 K = some (y, K') ∧ (∀ i k, i ≠ b + 13 → K' i k = K i k) ∧ ∀ p, p < 8 → K' (b + 13) p = lam M c p := by
  have key := loop1 (fun n i K => f_X0_watch_L2 b n i K) 0 8 (fun i K' => (∀ i k, i ≠ b + 13 → K' i k = K i k) ∧ ∀ p, p < i → K' (b + 13) p = lam M c p)
    (fun o => ∃ y K', o = some (y, K') ∧ (∀ i k, i ≠ b + 13 → K' i k = K i k) ∧ ∀ p, p < 8 → K' (b + 13) p = lam M c p)
    (fun n K' hP => ⟨_, K', by show f_X0_watch_L2 b (n + 1) (nI 8) K' = _; rw [f_X0_watch_L2, if_pos c8_yes], hP⟩)
    (fun n i K' hi hP => by
      obtain ⟨p1, p2⟩ := hP
      have hR : RC b c K' M := RC_see h p1 (fun _ _ _ => rfl)
      refine ⟨ks K' (b + 13) i (lam M c i), ?_, fun x k hx => by rw [ks_i hx]; exact p1 x k hx, fun p hp => ?_⟩
      · show f_X0_watch_L2 b (n + 1) (nI (0 + i)) K' = f_X0_watch_L2 b n (nI (0 + i + 1)) _
        rw [Nat.zero_add, f_X0_watch_L2, if_neg (c8_no hi), C_lamps hi hR, ob, p1 b 11 (by omega), h11, if_pos rfl]
        simp only [f_X4_see, C_isPh hi, ob, n10, if_false, inb_t hi (show 8 < 2147483648 by omega), if_true, ix_nI (show i < 2147483648 by omega), st, lt, n_a1]
        rfl
      · rcases Nat.lt_or_ge p i with hlt | hge
        · rw [ks_k (by omega)]
          exact p2 p hlt
        · have : p = i := by omega
          subst this
          rw [ks_s])
    8 0 70 K rfl (by omega) ⟨fun _ _ _ => rfl, fun p hp => absurd hp (by omega)⟩
  exact key
theorem M_seeL (hc : c < 2) (hf : ∀ p, p < 8 → ∃ n, n < 4 ∧ M 14 (8 * c + p) = nI n) : ∃ y M', f_X9_watch_L2 (nI c) 70 0 M = some (y, M') ∧ (∀ row k, row ≠ 15 → M' row k = M row k) ∧ (∀ k, (k < 8 * c ∨ 8 * c + 8 ≤ k) → M' 15 k = M 15 k) ∧ ∀ p, p < 8 → M' 15 (8 * c + p) = lam M c p := by
  have key := loop1 (fun n i M => f_X9_watch_L2 (nI c) n i M) 0 8 (fun i M' => (∀ row k, row ≠ 15 → M' row k = M row k) ∧ (∀ k, (k < 8 * c ∨ 8 * c + 8 ≤ k) → M' 15 k = M 15 k) ∧ ∀ p, p < i → M' 15 (8 * c + p) = lam M c p)
    (fun o => ∃ y M', o = some (y, M') ∧ (∀ row k, row ≠ 15 → M' row k = M row k) ∧ (∀ k, (k < 8 * c ∨ 8 * c + 8 ≤ k) → M' 15 k = M 15 k) ∧ ∀ p, p < 8 → M' 15 (8 * c + p) = lam M c p)
    (fun n M' hP => ⟨_, M', by show f_X9_watch_L2 (nI c) (n + 1) (nI 8) M' = _; rw [f_X9_watch_L2, if_pos c8_yes], hP⟩)
    (fun n i M' hi hP => by
      obtain ⟨p1, p2, p3⟩ := hP
      have hl := M_lamps (M := M') hc hi (by rw [p1 14 _ (by omega)]; exact hf i hi)
      have hl' : f_X9_lampsOf (nI c) (nI i) M' = some (lam M c i) := by
        rw [← lam_c p1 i]
        exact hl
      refine ⟨ks M' 15 (8 * c + i) (lam M c i), ?_, fun x k hx => by rw [ks_i hx]; exact p1 x k hx, fun k hk => by rw [ks_k (by omega)]; exact p2 k hk, fun p hp => ?_⟩
      · show f_X9_watch_L2 (nI c) (n + 1) (nI (0 + i)) M' = f_X9_watch_L2 (nI c) n (nI (0 + i + 1)) _
        rw [Nat.zero_add, f_X9_watch_L2, if_neg (c8_no hi), hl', ob]
        simp only [n_8, n_ak, inb_t (show 8 * c + i < 16 by omega) (show 16 < 2147483648 by omega), if_true, ix_nI (show 8 * c + i < 2147483648 by omega), st, lt, n_a1]
      · rcases Nat.lt_or_ge p i with hlt | hge
        · rw [ks_k (by omega)]
          exact p3 p hlt
        · have : p = i := by omega
          subst this
          rw [ks_s])
    8 0 70 M rfl (by omega) ⟨fun _ _ _ => rfl, fun _ _ => rfl, fun p hp => absurd hp (by omega)⟩
  exact key
/-! loops that leave early, loops that gather -/
theorem loopE (L : Nat → Int32 → Option Int32) (X : Nat → Bool) (hx : ∀ n, L (n + 1) (nI 8) = some 0) (hs : ∀ n i, i < 8 → L (n + 1) (nI i) = if X i = true then some 1 else L n (nI (i + 1))) : ∀ j i n, i + j = 8 → j < n → (∀ p, p < i → X p = false) → L n (nI i) = some (bi (anyf X 8)) := by
  intro j
  induction j with
  | zero =>
    intro i n hi hn hp
    obtain ⟨n, rfl⟩ : ∃ q, n = q + 1 := ⟨n - 1, by omega⟩
    have : i = 8 := by omega
    subst this
    have : anyf X 8 = false := by
      cases e : anyf X 8
      · rfl
      · obtain ⟨p, h1, h2⟩ := (anyf_iff X 8).mp e
        rw [hp p h1] at h2
        cases h2
    rw [hx, this, bi_f]
  | succ j ih =>
    intro i n hi hn hp
    obtain ⟨n, rfl⟩ : ∃ q, n = q + 1 := ⟨n - 1, by omega⟩
    rw [hs n i (by omega)]
    cases e : X i
    · rw [if_neg (by decide)]
      exact ih (i + 1) n (by omega) (by omega) (fun p h => by
        rcases Nat.lt_or_ge p i with hlt | hge
        · exact hp p hlt
        · have : p = i := by omega
          subst this
          exact e)
    · rw [if_pos rfl, (anyf_iff X 8).mpr ⟨i, by omega, e⟩, bi_t]
theorem loopC (L : Nat → Int32 → Option Int32) (X : Nat → Bool) (r : Option Int32) (hx : ∀ n, L (n + 1) (nI 8) = r) (hs : ∀ n i, i < 8 → L (n + 1) (nI i) = if X i = true then some 1 else L n (nI (i + 1))) : ∀ j i n, i + j = 8 → j < n → L n (nI i) = if anyf (fun q => decide (i ≤ q) && X q) 8 = true then some 1 else r := by
  intro j
  induction j with
  | zero =>
    intro i n hi hn
    obtain ⟨n, rfl⟩ : ∃ q, n = q + 1 := ⟨n - 1, by omega⟩
    have : i = 8 := by omega
    subst this
    rw [hx, if_neg]
    intro e
    obtain ⟨p, h1, h2⟩ := (anyf_iff _ 8).mp e
    have h3 : ¬ 8 ≤ p := by omega
    simp [h3] at h2
  | succ j ih =>
    intro i n hi hn
    obtain ⟨n, rfl⟩ : ∃ q, n = q + 1 := ⟨n - 1, by omega⟩
    rw [hs n i (by omega)]
    cases e : X i
    · rw [if_neg (by decide), ih (i + 1) n (by omega) (by omega)]
      have : anyf (fun q => decide (i + 1 ≤ q) && X q) 8 = anyf (fun q => decide (i ≤ q) && X q) 8 := anyf_congr 8 (fun p hp => by
        by_cases hpi : p = i
        · subst hpi
          simp [e]
        · have : (i + 1 ≤ p) ↔ (i ≤ p) := by omega
          simp [this])
      rw [this]
    · rw [if_pos rfl, if_pos]
      exact (anyf_iff _ 8).mpr ⟨i, by omega, by simp [e]⟩
theorem loopA (L : Nat → Int32 → Int32 → Mem → Option (Int32 × Int32 × Mem)) (o : Nat) (X : Nat → Bool) (P : Nat → Mem → Prop) (hx : ∀ n a M, L (n + 1) a (nI (o + 8)) M = some (a, nI (o + 8), M))
    (hs : ∀ n i a M, i < 8 → P i M → ∃ M', L (n + 1) (bi a) (nI (o + i)) M = L n (bi (a || X i)) (nI (o + i + 1)) M' ∧ P (i + 1) M') :
    ∀ j i n a M, i + j = 8 → j < n → P i M → a = anyf X i → ∃ M', L n (bi a) (nI (o + i)) M = some (bi (anyf X 8), nI (o + 8), M') ∧ P 8 M' := by
  intro j
  induction j with
  | zero =>
    intro i n a M hi hn hP ha
    obtain ⟨n, rfl⟩ : ∃ q, n = q + 1 := ⟨n - 1, by omega⟩
    have : i = 8 := by omega
    subst this
    exact ⟨M, by rw [hx, ha], hP⟩
  | succ j ih =>
    intro i n a M hi hn hP ha
    obtain ⟨n, rfl⟩ : ∃ q, n = q + 1 := ⟨n - 1, by omega⟩
    obtain ⟨M', e, hP'⟩ := hs n i a M (by omega) hP
    rw [e]
    exact ih (i + 1) n _ M' (by omega) (by omega) hP' (by rw [anyf, ha])
theorem loopB (L : Nat → Int32 → Int32 → Option (Int32 × Int32)) (e : Nat) (X : Nat → Bool) (a0 : Bool) (hx : ∀ n a, L (n + 1) a (nI e) = some (a, nI e)) (hs : ∀ n i a, i < e → L (n + 1) (bi a) (nI i) = L n (bi (a || X i)) (nI (i + 1))) : ∀ j i n a, i + j = e → j < n → a = (a0 || anyf X i) → L n (bi a) (nI i) = some (bi (a0 || anyf X e), nI e) := by
  intro j
  induction j with
  | zero =>
    intro i n a hi hn ha
    obtain ⟨n, rfl⟩ : ∃ q, n = q + 1 := ⟨n - 1, by omega⟩
    have : i = e := by omega
    subst this
    rw [hx, ha]
  | succ j ih =>
    intro i n a hi hn ha
    obtain ⟨n, rfl⟩ : ∃ q, n = q + 1 := ⟨n - 1, by omega⟩
    rw [hs n i a (by omega)]
    exact ih (i + 1) n _ (by omega) (by omega) (by rw [anyf, ha, Bool.or_assoc])
/-! the class's monitor: d its cell -/
section Cm
variable {d : Nat} {m sv : Int32} {U : Nat → Bool} {L B Y : Nat → Int32}
theorem C_goes (x : Int32) : f_X4_goes x K = some (bi (!decide (x &&& 6 = 0))) := by
  unfold f_X4_goes
  by_cases h : x &&& 6 = 0 <;> simp [h, bi]
theorem C_dark (hm : mk m U) (hv : K d 3 = sv) (hL : ∀ p, p < 8 → K (d + 1) p = L p) (hB : ∀ p, p < 8 → K (d + 2) p = B p) : f_X4_seesDark d m K = some (bi (anyf (fun p => U p && (!decide (sv = 0) && (decide (L p = 0) && decide (B p = 0)))) 8)) := by
  unfold f_X4_seesDark
  refine loopE (fun n i => f_X4_seesDark_L2 (fun _ => some 0) d m n i K) _ (fun n => by show f_X4_seesDark_L2 _ d m (n + 1) (nI 8) K = _; rw [f_X4_seesDark_L2, if_pos c8_yes]) (fun n i hi => ?_) 8 0 70 rfl (by omega) (fun p hp => absurd hp (by omega))
  show f_X4_seesDark_L2 _ d m (n + 1) (nI i) K = _
  rw [f_X4_seesDark_L2, if_neg (c8_no hi), C_bit hi, ob, hv]
  simp only [lt, n_a1, inb_t hi (show 8 < 2147483648 by omega), if_true, ix_nI (show i < 2147483648 by omega), hL i hi, hB i hi]
  have ht := mk_tst hm hi
  cases hu : U i
  · rw [if_pos (ht.mpr hu), ob]
    simp
  · rw [if_neg (fun e => by rw [ht.mp e] at hu; cases hu), ob, if_neg n10]
    by_cases h1 : sv = 0
    · simp [h1]
    · by_cases h2 : L i = 0
      · by_cases h3 : B i = 0 <;> simp [h1, h2, h3]
      · simp [h1, h2]
theorem C_short (hm : mk m U) (hL : ∀ p, p < 8 → K (d + 1) p = L p) (hB : ∀ p, p < 8 → K (d + 2) p = B p) (hY : ∀ p, p < 8 → K (d + 3) p = Y p) : f_X4_seesShort d m K = some (bi (anyf (fun p => U p && ((!decide (B p &&& 6 = 0) && decide (L p &&& 6 = 0)) && !decide ((3 : Int32) ≤ Y p))) 8)) := by
  unfold f_X4_seesShort
  refine loopE (fun n i => f_X4_seesShort_L2 (fun _ => some 0) d m n i K) _ (fun n => by show f_X4_seesShort_L2 _ d m (n + 1) (nI 8) K = _; rw [f_X4_seesShort_L2, if_pos c8_yes]) (fun n i hi => ?_) 8 0 70 rfl (by omega) (fun p hp => absurd hp (by omega))
  show f_X4_seesShort_L2 _ d m (n + 1) (nI i) K = _
  rw [f_X4_seesShort_L2, if_neg (c8_no hi)]
  simp only [lt, n_a1, inb_t hi (show 8 < 2147483648 by omega), if_true, ix_nI (show i < 2147483648 by omega), hL i hi, hB i hi, hY i hi, C_goes, ob, C_bit hi]
  have ht := mk_tst hm hi
  by_cases h1 : B i &&& 6 = 0
  · simp [h1, bi]
  · by_cases h2 : L i &&& 6 = 0
    · cases hu : U i
      · have := ht.mpr hu
        simp [h1, h2, bi, this]
      · have : ¬ m &&& jshl 1 (nI i) = 0 := fun e => by rw [ht.mp e] at hu; cases hu
        by_cases h3 : (3 : Int32) ≤ Y i <;> simp [h1, h2, h3, bi, this]
    · simp [h1, h2, bi]
def tg (p q : Nat) : Bool := !decide (p / 4 = q / 4) && decide (p % 4 / 2 = q % 4 / 2)
theorem C_tg {p q : Nat} (hp : p < 8) (hq : q < 8) : f_X4_goTogether (nI p) (nI q) K = some (bi (tg p q)) := by
  unfold f_X4_goTogether tg
  rw [C_ringOf hp, ob, C_ringOf hq, ob, C_sideOf hp, ob, C_sideOf hq, ob]
  have e1 : nI (p / 4) = nI (q / 4) ↔ p / 4 = q / 4 := eq_nI (by omega) (by omega)
  have e2 : nI (p % 4 / 2) = nI (q % 4 / 2) ↔ p % 4 / 2 = q % 4 / 2 := eq_nI (by omega) (by omega)
  by_cases h1 : p / 4 = q / 4
  · rw [if_pos (e1.mpr h1)]
    simp [h1, bi]
  · rw [if_neg (fun e => h1 (e1.mp e))]
    by_cases h2 : p % 4 / 2 = q % 4 / 2
    · rw [if_pos (e2.mpr h2)]
      simp [h1, h2, bi]
    · rw [if_neg (fun e => h2 (e2.mp e))]
      simp [h2, bi]
def Yc (U : Nat → Bool) (L : Nat → Int32) (p q : Nat) : Bool := (U p && U q) && (!decide (L p &&& 6 = 0) && (!decide (L q &&& 6 = 0) && !tg p q))
theorem C_conf (hm : mk m U) (hL : ∀ p, p < 8 → K (d + 1) p = L p) : f_X4_seesConflict d m K = some (bi (anyf (fun p => anyf (fun q => decide (p + 1 ≤ q) && Yc U L p q) 8) 8)) := by
  unfold f_X4_seesConflict
  refine loopE (fun n i => f_X4_seesConflict_L2 (fun _ => some 0) d m n i K) _ (fun n => by show f_X4_seesConflict_L2 _ d m (n + 1) (nI 8) K = _; rw [f_X4_seesConflict_L2, if_pos c8_yes]) (fun n p hp => ?_) 8 0 70 rfl (by omega) (fun p hp => absurd hp (by omega))
  show f_X4_seesConflict_L2 _ d m (n + 1) (nI p) K = _
  rw [f_X4_seesConflict_L2, if_neg (c8_no hp)]
  simp only [lt, n_a1]
  refine loopC (fun n i => f_X4_seesConflict_L12 (fun _ => f_X4_seesConflict_L2 (fun _ => some 0) d m _ (nI (p + 1)) K) d m (nI p) n i K) (Yc U L p) _ (fun n => by show f_X4_seesConflict_L12 _ d m (nI p) (n + 1) (nI 8) K = _; rw [f_X4_seesConflict_L12, if_pos c8_yes]) (fun n i hi => ?_) (7 - p) (p + 1) 70 (by omega) (by omega)
  show f_X4_seesConflict_L12 _ d m (nI p) (n + 1) (nI i) K = _
  rw [f_X4_seesConflict_L12, if_neg (c8_no hi)]
  simp only [lt, n_a1, inb_t hi (show 8 < 2147483648 by omega), inb_t hp (show 8 < 2147483648 by omega), if_true, ix_nI (show i < 2147483648 by omega), ix_nI (show p < 2147483648 by omega), hL i hi, hL p hp, C_goes, ob, C_bit hi, C_bit hp, C_tg hp hi]
  have t1 := mk_tst hm hp
  have t2 := mk_tst hm hi
  unfold Yc
  cases u1 : U p
  · rw [if_pos (t1.mpr u1), ob]
    simp
  · rw [if_neg (fun e => by rw [t1.mp e] at u1; cases u1)]
    cases u2 : U i
    · rw [if_pos (t2.mpr u2), ob]
      simp
    · rw [if_neg (fun e => by rw [t2.mp e] at u2; cases u2), ob, if_neg n10]
      by_cases h1 : L p &&& 6 = 0
      · simp [h1, bi]
      · by_cases h2 : L i &&& 6 = 0
        · simp [h1, h2, bi]
        · cases tg p i <;> simp [h1, h2, bi]
def yt (l y : Int32) : Int32 := if l &&& 4 = 0 then (if l &&& 2 = 0 then y else y + 1) else 0
theorem C_rem (hL : ∀ p, p < 8 → K (d + 1) p = L p) (hY : ∀ p, p < 8 → K (d + 3) p = Y p) : ∃ K', f_X4_remember d K = some K' ∧ K' d 3 = 1 ∧ (∀ p, p < 8 → K' (d + 2) p = L p ∧ K' (d + 3) p = yt (L p) (Y p)) ∧ ∀ i k, i ≠ d + 2 → i ≠ d + 3 → ¬ (i = d ∧ k = 3) → K' i k = K i k := by
  have key := loop1 (fun n i K => f_X4_remember_L7 d n i K) 0 8 (fun i K' => K' d 3 = 1 ∧ (∀ p, p < i → K' (d + 2) p = L p ∧ K' (d + 3) p = yt (L p) (Y p)) ∧ (∀ p, i ≤ p → p < 8 → K' (d + 3) p = Y p) ∧ ∀ i k, i ≠ d + 2 → i ≠ d + 3 → ¬ (i = d ∧ k = 3) → K' i k = K i k)
    (fun o => ∃ y K', o = some (y, K') ∧ K' d 3 = 1 ∧ (∀ p, p < 8 → K' (d + 2) p = L p ∧ K' (d + 3) p = yt (L p) (Y p)) ∧ ∀ i k, i ≠ d + 2 → i ≠ d + 3 → ¬ (i = d ∧ k = 3) → K' i k = K i k)
    (fun n K' hP => ⟨_, K', by show f_X4_remember_L7 d (n + 1) (nI 8) K' = _; rw [f_X4_remember_L7, if_pos c8_yes], hP.1, hP.2.1, hP.2.2.2⟩)
    (fun n i K' hi hP => by
      obtain ⟨p1, p2, p3, p4⟩ := hP
      have e1 : K' (d + 1) i = L i := by rw [p4 _ _ (by omega) (by omega) (by omega)]; exact hL i hi
      have e3 : K' (d + 3) i = Y i := p3 i (by omega) hi
      have r1 : ks K' (d + 2) i (L i) (d + 1) i = L i := by rw [ks_i (by omega)]; exact e1
      have r3 : ks K' (d + 2) i (L i) (d + 3) i = Y i := by rw [ks_i (by omega)]; exact e3
      refine ⟨if L i &&& 4 = 0 then (if L i &&& 2 = 0 then ks K' (d + 2) i (L i) else ks (ks K' (d + 2) i (L i)) (d + 3) i (Y i + 1)) else ks (ks K' (d + 2) i (L i)) (d + 3) i 0, ?_, ?_⟩
      · show f_X4_remember_L7 d (n + 1) (nI (0 + i)) K' = f_X4_remember_L7 d n (nI (0 + i + 1)) _
        rw [Nat.zero_add, f_X4_remember_L7, if_neg (c8_no hi)]
        simp only [lt, n_a1, inb_t hi (show 8 < 2147483648 by omega), if_true, ix_nI (show i < 2147483648 by omega), st, e1, r1, r3]
        by_cases h4 : L i &&& 4 = 0
        · by_cases h2 : L i &&& 2 = 0
          · simp only [h4, h2, if_true, ob]
          · simp only [h4, h2, if_true, if_false, ob]
        · simp only [h4, if_false, ob]
      · have hval : ∀ K2 : Mem, (K2 = (if L i &&& 4 = 0 then (if L i &&& 2 = 0 then ks K' (d + 2) i (L i) else ks (ks K' (d + 2) i (L i)) (d + 3) i (Y i + 1)) else ks (ks K' (d + 2) i (L i)) (d + 3) i 0)) → (K2 (d + 2) i = L i ∧ K2 (d + 3) i = yt (L i) (Y i)) ∧ ∀ x k, (k ≠ i ∨ (x ≠ d + 2 ∧ x ≠ d + 3)) → K2 x k = K' x k := by
          intro K2 hK2
          subst hK2
          unfold yt
          by_cases h4 : L i &&& 4 = 0
          · by_cases h2 : L i &&& 2 = 0
            · simp only [h4, h2, if_true]
              exact ⟨⟨ks_s _ _ _ _, r3⟩, fun x k hk => by rw [ks_n (by omega)]⟩
            · simp only [h4, h2, if_true, if_false]
              exact ⟨⟨by rw [ks_i (by omega), ks_s], ks_s _ _ _ _⟩, fun x k hk => by rw [ks_n (by omega), ks_n (by omega)]⟩
          · simp only [h4, if_false]
            exact ⟨⟨by rw [ks_i (by omega), ks_s], ks_s _ _ _ _⟩, fun x k hk => by rw [ks_n (by omega), ks_n (by omega)]⟩
        obtain ⟨v1, v2⟩ := hval _ rfl
        generalize (if L i &&& 4 = 0 then (if L i &&& 2 = 0 then ks K' (d + 2) i (L i) else ks (ks K' (d + 2) i (L i)) (d + 3) i (Y i + 1)) else ks (ks K' (d + 2) i (L i)) (d + 3) i 0) = K2 at *
        refine ⟨by rw [v2 _ _ (by omega)]; exact p1, fun p hp => ?_, fun p hp hp8 => by rw [v2 _ _ (by omega)]; exact p3 p (by omega) hp8, fun x k h1 h2 h3 => by rw [v2 _ _ (by omega)]; exact p4 x k h1 h2 h3⟩
        rcases Nat.lt_or_ge p i with hlt | hge
        · rw [v2 _ _ (by omega), v2 _ _ (by omega)]
          exact p2 p hlt
        · have : p = i := by omega
          subst this
          exact v1)
    8 0 70 (ks K d 3 1) rfl (by omega) ⟨ks_s _ _ _ _, fun p hp => absurd hp (by omega), fun p _ hp => by rw [ks_i (by omega)]; exact hY p hp, fun i k h1 h2 h3 => by rw [ks_n (by omega)]⟩
  obtain ⟨y, K', e, q1, q2, q3⟩ := key
  refine ⟨K', ?_, q1, q2, q3⟩
  unfold f_X4_remember
  show (f_X4_remember_L7 d 70 (nI 0) (ks K d 3 1)).bind _ = _
  have e' : f_X4_remember_L7 d 70 (nI 0) (ks K d 3 1) = some (y, K') := e
  rw [e', ob]
end Cm
end Wa
